theorem q_laddP {A B : Int64} {a b : Nat} (h1 : A = lN a) (h2 : B = lN b) : A + B = lN (a + b) := by rw [h1, h2, lN_add]
theorem q_lsubP {A B : Int64} {a b : Nat} (h1 : A = lN a) (h2 : B = lN b) (h : b ≤ a) : A - B = lN (a - b) := by rw [h1, h2, lN_sub h]
theorem q_l2iP {A : Int64} {a : Nat} (h1 : A = lN a) : A.toInt32 = nI a := by rw [h1, lN_i]
theorem GM_rl {d y : Nat} {av : List Value} {M M1 : qM} {r1 r2 : Int64} (h : GM d y av M (some (.long r1)) M1) (e : r1 = r2) : GM d y av M (some (.long r2)) M1 := e ▸ h
theorem x_hbI1 {d : Nat} {sw : Bool} {gc : Nat} {I : Nat → Nat → Int32} {J : Nat → Nat → Int64} {s n : Nat} (hs : s < 4) (hn : I (2 * s + 54) 1 = nI n) (hn60 : n ≤ 60) {z : Int64} (hz : z < 0 ∨ lN n ≤ z) : GM (d + 1) 97 [.ref 0, .ref (2 * s + 54), .long z] (qS sw gc I J) (some (.int (-12))) (qS sw gc I J) := by
  refine GM_of (by decide) (Nat.le_refl _) (Nat.le_of_ble_eq_true rfl) trivial ?_
  refine G_st (L := 89) (k := 0) (0, [some (.ref 0), some (.ref (2 * s + 54)), some (.long z), none, none, none, none, none, none], [], qS sw gc I J) (q_hn _ _ _ _) rfl ?_
  refine G_st (L := 89) (k := 2) (2, [some (.ref 0), some (.ref (2 * s + 54)), some (.long z), none, none, none, none, none, none], [.long z, .ref (2 * s + 54)], qS sw gc I J) (q_hn _ _ _ _) rfl ?_
  refine G_callV (b := 2 * s + 54) (ci := 5) (as := [.long z]) (rest := []) rfl rfl (q_shS (by omega)).1 (q_ltS (by omega)).1 (by decide) rfl rfl (Nat.le_of_ble_eq_true rfl) (GM_r (r2 := 0) (x_hasCell hs) (by rw [hn, x_hc_out hn60 hz]; rfl)) x_out_n ?_
  refine G_st (L := 89) (k := 0) (5, [some (.ref 0), some (.ref (2 * s + 54)), some (.long z), none, none, none, none, none, none], [.int 0], qS sw gc I J) (q_hn _ _ _ _) rfl ?_
  refine G_if_eq 22 rfl rfl (fun _ => ?_) (fun h9 => absurd h9 (by decide))
  refine G_st (L := 89) (k := 1) (24, [some (.ref 0), some (.ref (2 * s + 54)), some (.long z), none, none, none, none, none, none], [.int (-12)], qS sw gc I J) (q_hn _ _ _ _) rfl ?_
  exact G_iret rfl rfl rfl rfl
theorem x_hbI2 {d : Nat} {sw : Bool} {gc : Nat} {I : Nat → Nat → Int32} {J : Nat → Nat → Int64} {s j n : Nat} (hs : s < 4) (hn : I (2 * s + 54) 1 = nI n) (hn60 : n ≤ 60) (hj : j < n) (hj2 : n ≤ j + 2) : GM (d + 1) 97 [.ref 0, .ref (2 * s + 54), .long (lN j)] (qS sw gc I J) (some (.int (-12))) (qS sw gc I J) := by
  refine GM_of (by decide) (Nat.le_refl _) (Nat.le_of_ble_eq_true rfl) trivial ?_
  refine G_st (L := 89) (k := 0) (0, [some (.ref 0), some (.ref (2 * s + 54)), some (.long (lN j)), none, none, none, none, none, none], [], qS sw gc I J) (q_hn _ _ _ _) rfl ?_
  refine G_st (L := 89) (k := 2) (2, [some (.ref 0), some (.ref (2 * s + 54)), some (.long (lN j)), none, none, none, none, none, none], [.long (lN j), .ref (2 * s + 54)], qS sw gc I J) (q_hn _ _ _ _) rfl ?_
  refine G_callV (b := 2 * s + 54) (ci := 5) (as := [.long (lN j)]) (rest := []) rfl rfl (q_shS (by omega)).1 (q_ltS (by omega)).1 (by decide) rfl rfl (Nat.le_of_ble_eq_true rfl) (GM_r (r2 := 1) (x_hasCell hs) (by rw [hn, x_hc_in hj hn60]; rfl)) x_out_n ?_
  refine G_st (L := 89) (k := 0) (5, [some (.ref 0), some (.ref (2 * s + 54)), some (.long (lN j)), none, none, none, none, none, none], [.int 1], qS sw gc I J) (q_hn _ _ _ _) rfl ?_
  refine G_if_eq 22 rfl rfl (fun h9 => absurd h9 (by decide)) (fun _ => ?_)
  refine G_st (L := 89) (k := 6) (16, [some (.ref 0), some (.ref (2 * s + 54)), some (.long (lN j)), none, none, none, none, none, none], [.long (((lN j) + 3) - 1), .ref (2 * s + 54)], qS sw gc I J) (q_hn _ _ _ _) rfl ?_
  rw [show ((lN j) + 3) - 1 = lN (j + 3 - 1) from (q_lsubP (q_laddP rfl rfl) rfl (by omega))]
  refine G_callV (b := 2 * s + 54) (ci := 5) (as := [.long (lN (j + 3 - 1))]) (rest := []) rfl rfl (q_shS (by omega)).1 (q_ltS (by omega)).1 (by decide) rfl rfl (Nat.le_of_ble_eq_true rfl) (GM_r (r2 := 0) (x_hasCell hs) (by rw [hn, x_hc_out hn60 (Or.inr (by rw [lN_le (by omega) (by omega)]; omega))]; rfl)) x_out_n ?_
  refine G_st (L := 89) (k := 0) (19, [some (.ref 0), some (.ref (2 * s + 54)), some (.long (lN j)), none, none, none, none, none, none], [.int 0], qS sw gc I J) (q_hn _ _ _ _) rfl ?_
  refine G_if_ne 25 rfl rfl (fun h9 => absurd h9 (by decide)) (fun _ => ?_)
  refine G_st (L := 89) (k := 1) (24, [some (.ref 0), some (.ref (2 * s + 54)), some (.long (lN j)), none, none, none, none, none, none], [.int (-12)], qS sw gc I J) (q_hn _ _ _ _) rfl ?_
  exact G_iret rfl rfl rfl rfl
theorem x_hbG {d : Nat} {sw : Bool} {gc : Nat} {I : Nat → Nat → Int32} {J : Nat → Nat → Int64} {s j n : Nat} (hs : s < 4) (hn : I (2 * s + 54) 1 = nI n) (hn60 : n ≤ 60) (hj : j + 2 < n) {v0 v1 v2 : Int64} (hv0 : J (2 * s + 55) j = v0) (hv1 : J (2 * s + 55) (j + 1) = v1) (hv2 : J (2 * s + 55) (j + 2) = v2) (hgc : I 0 6 = nI gc) (hg : gc ≤ 8) (hx : v0 < 0 ∨ lN gc ≤ v0) : GM (d + 2) 97 [.ref 0, .ref (2 * s + 54), .long (lN j)] (qS sw gc I J) (some (.int (-21))) (qS sw gc I J) := by
  refine GM_of (by decide) (Nat.le_refl _) (Nat.le_of_ble_eq_true rfl) trivial ?_
  refine G_st (L := 89) (k := 0) (0, [some (.ref 0), some (.ref (2 * s + 54)), some (.long (lN j)), none, none, none, none, none, none], [], qS sw gc I J) (q_hn _ _ _ _) rfl ?_
  refine G_st (L := 89) (k := 2) (2, [some (.ref 0), some (.ref (2 * s + 54)), some (.long (lN j)), none, none, none, none, none, none], [.long (lN j), .ref (2 * s + 54)], qS sw gc I J) (q_hn _ _ _ _) rfl ?_
  refine G_callV (b := 2 * s + 54) (ci := 5) (as := [.long (lN j)]) (rest := []) rfl rfl (q_shS (by omega)).1 (q_ltS (by omega)).1 (by decide) rfl rfl (Nat.le_of_ble_eq_true rfl) (GM_r (r2 := 1) (x_hasCell hs) (by rw [hn, x_hc_in (by omega) hn60]; rfl)) x_out_n ?_
  refine G_st (L := 89) (k := 0) (5, [some (.ref 0), some (.ref (2 * s + 54)), some (.long (lN j)), none, none, none, none, none, none], [.int 1], qS sw gc I J) (q_hn _ _ _ _) rfl ?_
  refine G_if_eq 22 rfl rfl (fun h9 => absurd h9 (by decide)) (fun _ => ?_)
  refine G_st (L := 89) (k := 6) (16, [some (.ref 0), some (.ref (2 * s + 54)), some (.long (lN j)), none, none, none, none, none, none], [.long (((lN j) + 3) - 1), .ref (2 * s + 54)], qS sw gc I J) (q_hn _ _ _ _) rfl ?_
  rw [show ((lN j) + 3) - 1 = lN (j + 3 - 1) from (q_lsubP (q_laddP rfl rfl) rfl (by omega))]
  refine G_callV (b := 2 * s + 54) (ci := 5) (as := [.long (lN (j + 3 - 1))]) (rest := []) rfl rfl (q_shS (by omega)).1 (q_ltS (by omega)).1 (by decide) rfl rfl (Nat.le_of_ble_eq_true rfl) (GM_r (r2 := 1) (x_hasCell hs) (by rw [hn, x_hc_in (by omega) hn60]; rfl)) x_out_n ?_
  refine G_st (L := 89) (k := 0) (19, [some (.ref 0), some (.ref (2 * s + 54)), some (.long (lN j)), none, none, none, none, none, none], [.int 1], qS sw gc I J) (q_hn _ _ _ _) rfl ?_
  refine G_if_ne 25 rfl rfl (fun _ => ?_) (fun h9 => absurd h9 (by decide))
  refine G_st (L := 89) (k := 3) (28, [some (.ref 0), some (.ref (2 * s + 54)), some (.long (lN j)), none, none, none, none, none, none], [.long (lN j), .ref (2 * s + 54), .ref 0], qS sw gc I J) (q_hn _ _ _ _) rfl ?_
  refine G_callV (b := 2 * s + 54) (ci := 5) (as := [.long (lN j)]) (rest := [.ref 0]) rfl rfl (q_shS (by omega)).1 (q_ltS (by omega)).1 (by decide) rfl rfl (Nat.le_of_ble_eq_true rfl) (GM_rl (x_cellAt hs hn hn60 (by omega)) hv0) x_out_n ?_
  refine G_st (L := 89) (k := 0) (31, [some (.ref 0), some (.ref (2 * s + 54)), some (.long (lN j)), none, none, none, none, none, none], [.long v0, .ref 0], qS sw gc I J) (q_hn _ _ _ _) rfl ?_
  refine G_callV (b := 0) (ci := 8) (as := [.long v0]) (rest := []) rfl rfl rfl (q_lt (by decide)) (by decide) rfl rfl (Nat.le_of_ble_eq_true rfl) (x_gangAtN hgc hg hx) x_out_n ?_
  refine G_st (L := 89) (k := 5) (40, [some (.ref 0), some (.ref (2 * s + 54)), some (.long (lN j)), none, some (.null), none, none, none, none], [.long ((lN j) + 1), .ref (2 * s + 54)], qS sw gc I J) (q_hn _ _ _ _) rfl ?_
  rw [show (lN j) + 1 = lN (j + 1) from (q_laddP rfl rfl)]
  refine G_callV (b := 2 * s + 54) (ci := 5) (as := [.long (lN (j + 1))]) (rest := []) rfl rfl (q_shS (by omega)).1 (q_ltS (by omega)).1 (by decide) rfl rfl (Nat.le_of_ble_eq_true rfl) (GM_rl (x_cellAt hs hn hn60 (by omega)) hv1) x_out_n ?_
  refine G_st (L := 89) (k := 5) (51, [some (.ref 0), some (.ref (2 * s + 54)), some (.long (lN j)), none, some (.null), some (.long v1), none, none, none], [.long ((lN j) + 2), .ref (2 * s + 54)], qS sw gc I J) (q_hn _ _ _ _) rfl ?_
  rw [show (lN j) + 2 = lN (j + 2) from (q_laddP rfl rfl)]
  refine G_callV (b := 2 * s + 54) (ci := 5) (as := [.long (lN (j + 2))]) (rest := []) rfl rfl (q_shS (by omega)).1 (q_ltS (by omega)).1 (by decide) rfl rfl (Nat.le_of_ble_eq_true rfl) (GM_rl (x_cellAt hs hn hn60 (by omega)) hv2) x_out_n ?_
  refine G_st (L := 89) (k := 4) (73, [some (.ref 0), some (.ref (2 * s + 54)), some (.long (lN j)), none, some (.null), some (.long v1), none, some (.long v2), none], [.int (-21)], qS sw gc I J) (q_hn _ _ _ _) rfl ?_
  exact G_iret rfl rfl rfl rfl
theorem x_hbB {d : Nat} {sw : Bool} {gc : Nat} {I : Nat → Nat → Int32} {J : Nat → Nat → Int64} {s j n : Nat} (hs : s < 4) (hn : I (2 * s + 54) 1 = nI n) (hn60 : n ≤ 60) (hj : j + 2 < n)  {k : Nat} {v1 v2 : Int64} (hv0 : J (2 * s + 55) j = lN k) (hv1 : J (2 * s + 55) (j + 1) = v1) (hv2 : J (2 * s + 55) (j + 2) = v2) (hgc : I 0 6 = nI gc) (hg : gc ≤ 8) (hk : k < gc) (hb : f_isBlock v1 v2 = 0) : GM (d + 2) 97 [.ref 0, .ref (2 * s + 54), .long (lN j)] (qS sw gc I J) (some (.int (-21))) (qS sw gc I J) := by
  refine GM_of (by decide) (Nat.le_refl _) (Nat.le_of_ble_eq_true rfl) trivial ?_
  refine G_st (L := 89) (k := 0) (0, [some (.ref 0), some (.ref (2 * s + 54)), some (.long (lN j)), none, none, none, none, none, none], [], qS sw gc I J) (q_hn _ _ _ _) rfl ?_
  refine G_st (L := 89) (k := 2) (2, [some (.ref 0), some (.ref (2 * s + 54)), some (.long (lN j)), none, none, none, none, none, none], [.long (lN j), .ref (2 * s + 54)], qS sw gc I J) (q_hn _ _ _ _) rfl ?_
  refine G_callV (b := 2 * s + 54) (ci := 5) (as := [.long (lN j)]) (rest := []) rfl rfl (q_shS (by omega)).1 (q_ltS (by omega)).1 (by decide) rfl rfl (Nat.le_of_ble_eq_true rfl) (GM_r (r2 := 1) (x_hasCell hs) (by rw [hn, x_hc_in (by omega) hn60]; rfl)) x_out_n ?_
  refine G_st (L := 89) (k := 0) (5, [some (.ref 0), some (.ref (2 * s + 54)), some (.long (lN j)), none, none, none, none, none, none], [.int 1], qS sw gc I J) (q_hn _ _ _ _) rfl ?_
  refine G_if_eq 22 rfl rfl (fun h9 => absurd h9 (by decide)) (fun _ => ?_)
  refine G_st (L := 89) (k := 6) (16, [some (.ref 0), some (.ref (2 * s + 54)), some (.long (lN j)), none, none, none, none, none, none], [.long (((lN j) + 3) - 1), .ref (2 * s + 54)], qS sw gc I J) (q_hn _ _ _ _) rfl ?_
  rw [show ((lN j) + 3) - 1 = lN (j + 3 - 1) from (q_lsubP (q_laddP rfl rfl) rfl (by omega))]
  refine G_callV (b := 2 * s + 54) (ci := 5) (as := [.long (lN (j + 3 - 1))]) (rest := []) rfl rfl (q_shS (by omega)).1 (q_ltS (by omega)).1 (by decide) rfl rfl (Nat.le_of_ble_eq_true rfl) (GM_r (r2 := 1) (x_hasCell hs) (by rw [hn, x_hc_in (by omega) hn60]; rfl)) x_out_n ?_
  refine G_st (L := 89) (k := 0) (19, [some (.ref 0), some (.ref (2 * s + 54)), some (.long (lN j)), none, none, none, none, none, none], [.int 1], qS sw gc I J) (q_hn _ _ _ _) rfl ?_
  refine G_if_ne 25 rfl rfl (fun _ => ?_) (fun h9 => absurd h9 (by decide))
  refine G_st (L := 89) (k := 3) (28, [some (.ref 0), some (.ref (2 * s + 54)), some (.long (lN j)), none, none, none, none, none, none], [.long (lN j), .ref (2 * s + 54), .ref 0], qS sw gc I J) (q_hn _ _ _ _) rfl ?_
  refine G_callV (b := 2 * s + 54) (ci := 5) (as := [.long (lN j)]) (rest := [.ref 0]) rfl rfl (q_shS (by omega)).1 (q_ltS (by omega)).1 (by decide) rfl rfl (Nat.le_of_ble_eq_true rfl) (GM_rl (x_cellAt hs hn hn60 (by omega)) hv0) x_out_n ?_
  refine G_st (L := 89) (k := 0) (31, [some (.ref 0), some (.ref (2 * s + 54)), some (.long (lN j)), none, none, none, none, none, none], [.long (lN k), .ref 0], qS sw gc I J) (q_hn _ _ _ _) rfl ?_
  refine G_callV (b := 0) (ci := 8) (as := [.long (lN k)]) (rest := []) rfl rfl rfl (q_lt (by decide)) (by decide) rfl rfl (Nat.le_of_ble_eq_true rfl) (x_gangAt hgc hg hk) x_out_n ?_
  refine G_st (L := 89) (k := 5) (40, [some (.ref 0), some (.ref (2 * s + 54)), some (.long (lN j)), none, some (.ref (2 * k + 89)), none, none, none, none], [.long ((lN j) + 1), .ref (2 * s + 54)], qS sw gc I J) (q_hn _ _ _ _) rfl ?_
  rw [show (lN j) + 1 = lN (j + 1) from (q_laddP rfl rfl)]
  refine G_callV (b := 2 * s + 54) (ci := 5) (as := [.long (lN (j + 1))]) (rest := []) rfl rfl (q_shS (by omega)).1 (q_ltS (by omega)).1 (by decide) rfl rfl (Nat.le_of_ble_eq_true rfl) (GM_rl (x_cellAt hs hn hn60 (by omega)) hv1) x_out_n ?_
  refine G_st (L := 89) (k := 5) (51, [some (.ref 0), some (.ref (2 * s + 54)), some (.long (lN j)), none, some (.ref (2 * k + 89)), some (.long v1), none, none, none], [.long ((lN j) + 2), .ref (2 * s + 54)], qS sw gc I J) (q_hn _ _ _ _) rfl ?_
  rw [show (lN j) + 2 = lN (j + 2) from (q_laddP rfl rfl)]
  refine G_callV (b := 2 * s + 54) (ci := 5) (as := [.long (lN (j + 2))]) (rest := []) rfl rfl (q_shS (by omega)).1 (q_ltS (by omega)).1 (by decide) rfl rfl (Nat.le_of_ble_eq_true rfl) (GM_rl (x_cellAt hs hn hn60 (by omega)) hv2) x_out_n ?_
  refine G_st (L := 89) (k := 5) (65, [some (.ref 0), some (.ref (2 * s + 54)), some (.long (lN j)), none, some (.ref (2 * k + 89)), some (.long v1), none, some (.long v2), none], [.long v2, .long v1], qS sw gc I J) (q_hn _ _ _ _) rfl ?_
  refine G_callS (as := [.long v1, .long v2]) (rest := []) rfl rfl rfl (Nat.le_of_ble_eq_true rfl) (GM_r (m_isBlock _ _) hb) x_out_n ?_
  refine G_st (L := 89) (k := 0) (68, [some (.ref 0), some (.ref (2 * s + 54)), some (.long (lN j)), none, some (.ref (2 * k + 89)), some (.long v1), none, some (.long v2), none], [.int 0], qS sw gc I J) (q_hn _ _ _ _) rfl ?_
  refine G_if_ne 74 rfl rfl (fun h9 => absurd h9 (by decide)) (fun _ => ?_)
  refine G_st (L := 89) (k := 1) (73, [some (.ref 0), some (.ref (2 * s + 54)), some (.long (lN j)), none, some (.ref (2 * k + 89)), some (.long v1), none, some (.long v2), none], [.int (-21)], qS sw gc I J) (q_hn _ _ _ _) rfl ?_
  exact G_iret rfl rfl rfl rfl
theorem x_hbN {d : Nat} {sw : Bool} {gc : Nat} {I : Nat → Nat → Int32} {J : Nat → Nat → Int64} {s j n : Nat} (hs : s < 4) (hn : I (2 * s + 54) 1 = nI n) (hn60 : n ≤ 60) (hj : j + 2 < n)  {k len : Nat} {F : Int64} (hv0 : J (2 * s + 55) j = lN k) (hv1 : J (2 * s + 55) (j + 1) = lN len) (hv2 : J (2 * s + 55) (j + 2) = F) (hgc : I 0 6 = nI gc) (hg : gc ≤ 8) (hk : k < gc) (hb : f_isBlock (lN len) F = 1) (hwk : I (2 * k + 89) 4 = -4) : GM (d + 3) 97 [.ref 0, .ref (2 * s + 54), .long (lN j)] (qS sw gc I J) (some (.int (-22))) (qS sw gc I J) := by
  refine GM_of (by decide) (Nat.le_refl _) (Nat.le_of_ble_eq_true rfl) trivial ?_
  refine G_st (L := 89) (k := 0) (0, [some (.ref 0), some (.ref (2 * s + 54)), some (.long (lN j)), none, none, none, none, none, none], [], qS sw gc I J) (q_hn _ _ _ _) rfl ?_
  refine G_st (L := 89) (k := 2) (2, [some (.ref 0), some (.ref (2 * s + 54)), some (.long (lN j)), none, none, none, none, none, none], [.long (lN j), .ref (2 * s + 54)], qS sw gc I J) (q_hn _ _ _ _) rfl ?_
  refine G_callV (b := 2 * s + 54) (ci := 5) (as := [.long (lN j)]) (rest := []) rfl rfl (q_shS (by omega)).1 (q_ltS (by omega)).1 (by decide) rfl rfl (Nat.le_of_ble_eq_true rfl) (GM_r (r2 := 1) (x_hasCell hs) (by rw [hn, x_hc_in (by omega) hn60]; rfl)) x_out_n ?_
  refine G_st (L := 89) (k := 0) (5, [some (.ref 0), some (.ref (2 * s + 54)), some (.long (lN j)), none, none, none, none, none, none], [.int 1], qS sw gc I J) (q_hn _ _ _ _) rfl ?_
  refine G_if_eq 22 rfl rfl (fun h9 => absurd h9 (by decide)) (fun _ => ?_)
  refine G_st (L := 89) (k := 6) (16, [some (.ref 0), some (.ref (2 * s + 54)), some (.long (lN j)), none, none, none, none, none, none], [.long (((lN j) + 3) - 1), .ref (2 * s + 54)], qS sw gc I J) (q_hn _ _ _ _) rfl ?_
  rw [show ((lN j) + 3) - 1 = lN (j + 3 - 1) from (q_lsubP (q_laddP rfl rfl) rfl (by omega))]
  refine G_callV (b := 2 * s + 54) (ci := 5) (as := [.long (lN (j + 3 - 1))]) (rest := []) rfl rfl (q_shS (by omega)).1 (q_ltS (by omega)).1 (by decide) rfl rfl (Nat.le_of_ble_eq_true rfl) (GM_r (r2 := 1) (x_hasCell hs) (by rw [hn, x_hc_in (by omega) hn60]; rfl)) x_out_n ?_
  refine G_st (L := 89) (k := 0) (19, [some (.ref 0), some (.ref (2 * s + 54)), some (.long (lN j)), none, none, none, none, none, none], [.int 1], qS sw gc I J) (q_hn _ _ _ _) rfl ?_
  refine G_if_ne 25 rfl rfl (fun _ => ?_) (fun h9 => absurd h9 (by decide))
  refine G_st (L := 89) (k := 3) (28, [some (.ref 0), some (.ref (2 * s + 54)), some (.long (lN j)), none, none, none, none, none, none], [.long (lN j), .ref (2 * s + 54), .ref 0], qS sw gc I J) (q_hn _ _ _ _) rfl ?_
  refine G_callV (b := 2 * s + 54) (ci := 5) (as := [.long (lN j)]) (rest := [.ref 0]) rfl rfl (q_shS (by omega)).1 (q_ltS (by omega)).1 (by decide) rfl rfl (Nat.le_of_ble_eq_true rfl) (GM_rl (x_cellAt hs hn hn60 (by omega)) hv0) x_out_n ?_
  refine G_st (L := 89) (k := 0) (31, [some (.ref 0), some (.ref (2 * s + 54)), some (.long (lN j)), none, none, none, none, none, none], [.long (lN k), .ref 0], qS sw gc I J) (q_hn _ _ _ _) rfl ?_
  refine G_callV (b := 0) (ci := 8) (as := [.long (lN k)]) (rest := []) rfl rfl rfl (q_lt (by decide)) (by decide) rfl rfl (Nat.le_of_ble_eq_true rfl) (x_gangAt hgc hg hk) x_out_n ?_
  refine G_st (L := 89) (k := 5) (40, [some (.ref 0), some (.ref (2 * s + 54)), some (.long (lN j)), none, some (.ref (2 * k + 89)), none, none, none, none], [.long ((lN j) + 1), .ref (2 * s + 54)], qS sw gc I J) (q_hn _ _ _ _) rfl ?_
  rw [show (lN j) + 1 = lN (j + 1) from (q_laddP rfl rfl)]
  refine G_callV (b := 2 * s + 54) (ci := 5) (as := [.long (lN (j + 1))]) (rest := []) rfl rfl (q_shS (by omega)).1 (q_ltS (by omega)).1 (by decide) rfl rfl (Nat.le_of_ble_eq_true rfl) (GM_rl (x_cellAt hs hn hn60 (by omega)) hv1) x_out_n ?_
  refine G_st (L := 89) (k := 5) (51, [some (.ref 0), some (.ref (2 * s + 54)), some (.long (lN j)), none, some (.ref (2 * k + 89)), some (.long (lN len)), none, none, none], [.long ((lN j) + 2), .ref (2 * s + 54)], qS sw gc I J) (q_hn _ _ _ _) rfl ?_
  rw [show (lN j) + 2 = lN (j + 2) from (q_laddP rfl rfl)]
  refine G_callV (b := 2 * s + 54) (ci := 5) (as := [.long (lN (j + 2))]) (rest := []) rfl rfl (q_shS (by omega)).1 (q_ltS (by omega)).1 (by decide) rfl rfl (Nat.le_of_ble_eq_true rfl) (GM_rl (x_cellAt hs hn hn60 (by omega)) hv2) x_out_n ?_
  refine G_st (L := 89) (k := 5) (65, [some (.ref 0), some (.ref (2 * s + 54)), some (.long (lN j)), none, some (.ref (2 * k + 89)), some (.long (lN len)), none, some (.long F), none], [.long F, .long (lN len)], qS sw gc I J) (q_hn _ _ _ _) rfl ?_
  refine G_callS (as := [.long (lN len), .long F]) (rest := []) rfl rfl rfl (Nat.le_of_ble_eq_true rfl) (GM_r (m_isBlock _ _) hb) x_out_n ?_
  refine G_st (L := 89) (k := 0) (68, [some (.ref 0), some (.ref (2 * s + 54)), some (.long (lN j)), none, some (.ref (2 * k + 89)), some (.long (lN len)), none, some (.long F), none], [.int 1], qS sw gc I J) (q_hn _ _ _ _) rfl ?_
  refine G_if_ne 74 rfl rfl (fun _ => ?_) (fun h9 => absurd h9 (by decide))
  refine G_st (L := 89) (k := 3) (80, [some (.ref 0), some (.ref (2 * s + 54)), some (.long (lN j)), none, some (.ref (2 * k + 89)), some (.long (lN len)), none, some (.long F), none], [.ref (2 * k + 89), .ref 14], qS sw gc I J) (q_hn _ _ _ _) rfl ?_
  refine G_get (ci := 1) (k := 4) (i := 2 * k + 89) rfl rfl (q_shG (by omega)).1 (q_ltG (by omega)).1 ?_
  refine G_st (L := 89) (k := 0) (83, [some (.ref 0), some (.ref (2 * s + 54)), some (.long (lN j)), none, some (.ref (2 * k + 89)), some (.long (lN len)), none, some (.long F), none], [.int (I (2 * k + 89) 4), .ref 14], qS sw gc I J) (q_hn _ _ _ _) rfl ?_
  refine G_callV (b := 14) (ci := 0) (as := [.int (I (2 * k + 89) 4)]) (rest := []) rfl rfl rfl (q_lt (by decide)) (by decide) rfl rfl (Nat.le_of_ble_eq_true rfl) (x_mayBeWorkedN (Or.inl (by rw [hwk]; decide))) x_out_n ?_
  refine G_st (L := 89) (k := 0) (86, [some (.ref 0), some (.ref (2 * s + 54)), some (.long (lN j)), none, some (.ref (2 * k + 89)), some (.long (lN len)), none, some (.long F), none], [.int 0], qS sw gc I J) (q_hn _ _ _ _) rfl ?_
  refine G_if_ne 92 rfl rfl (fun h9 => absurd h9 (by decide)) (fun _ => ?_)
  refine G_st (L := 89) (k := 1) (91, [some (.ref 0), some (.ref (2 * s + 54)), some (.long (lN j)), none, some (.ref (2 * k + 89)), some (.long (lN len)), none, some (.long F), none], [.int (-22)], qS sw gc I J) (q_hn _ _ _ _) rfl ?_
  exact G_iret rfl rfl rfl rfl
theorem x_hbM {d : Nat} {sw : Bool} {gc : Nat} {I : Nat → Nat → Int32} {J : Nat → Nat → Int64} {s j n : Nat} (hs : s < 4) (hn : I (2 * s + 54) 1 = nI n) (hn60 : n ≤ 60) (hj : j + 2 < n)  {k len : Nat} {F : Int64} (hv0 : J (2 * s + 55) j = lN k) (hv1 : J (2 * s + 55) (j + 1) = lN len) (hv2 : J (2 * s + 55) (j + 2) = F) (hgc : I 0 6 = nI gc) (hg : gc ≤ 8) (hk : k < gc) (hb : f_isBlock (lN len) F = 1) {w : Nat} (hw : w < 30) (hwk : I (2 * k + 89) 4 = nI w) (hmay : x_may I w = false) : GM (d + 3) 97 [.ref 0, .ref (2 * s + 54), .long (lN j)] (qS sw gc I J) (some (.int (-22))) (qS sw gc I J) := by
  refine GM_of (by decide) (Nat.le_refl _) (Nat.le_of_ble_eq_true rfl) trivial ?_
  refine G_st (L := 89) (k := 0) (0, [some (.ref 0), some (.ref (2 * s + 54)), some (.long (lN j)), none, none, none, none, none, none], [], qS sw gc I J) (q_hn _ _ _ _) rfl ?_
  refine G_st (L := 89) (k := 2) (2, [some (.ref 0), some (.ref (2 * s + 54)), some (.long (lN j)), none, none, none, none, none, none], [.long (lN j), .ref (2 * s + 54)], qS sw gc I J) (q_hn _ _ _ _) rfl ?_
  refine G_callV (b := 2 * s + 54) (ci := 5) (as := [.long (lN j)]) (rest := []) rfl rfl (q_shS (by omega)).1 (q_ltS (by omega)).1 (by decide) rfl rfl (Nat.le_of_ble_eq_true rfl) (GM_r (r2 := 1) (x_hasCell hs) (by rw [hn, x_hc_in (by omega) hn60]; rfl)) x_out_n ?_
  refine G_st (L := 89) (k := 0) (5, [some (.ref 0), some (.ref (2 * s + 54)), some (.long (lN j)), none, none, none, none, none, none], [.int 1], qS sw gc I J) (q_hn _ _ _ _) rfl ?_
  refine G_if_eq 22 rfl rfl (fun h9 => absurd h9 (by decide)) (fun _ => ?_)
  refine G_st (L := 89) (k := 6) (16, [some (.ref 0), some (.ref (2 * s + 54)), some (.long (lN j)), none, none, none, none, none, none], [.long (((lN j) + 3) - 1), .ref (2 * s + 54)], qS sw gc I J) (q_hn _ _ _ _) rfl ?_
  rw [show ((lN j) + 3) - 1 = lN (j + 3 - 1) from (q_lsubP (q_laddP rfl rfl) rfl (by omega))]
  refine G_callV (b := 2 * s + 54) (ci := 5) (as := [.long (lN (j + 3 - 1))]) (rest := []) rfl rfl (q_shS (by omega)).1 (q_ltS (by omega)).1 (by decide) rfl rfl (Nat.le_of_ble_eq_true rfl) (GM_r (r2 := 1) (x_hasCell hs) (by rw [hn, x_hc_in (by omega) hn60]; rfl)) x_out_n ?_
  refine G_st (L := 89) (k := 0) (19, [some (.ref 0), some (.ref (2 * s + 54)), some (.long (lN j)), none, none, none, none, none, none], [.int 1], qS sw gc I J) (q_hn _ _ _ _) rfl ?_
  refine G_if_ne 25 rfl rfl (fun _ => ?_) (fun h9 => absurd h9 (by decide))
  refine G_st (L := 89) (k := 3) (28, [some (.ref 0), some (.ref (2 * s + 54)), some (.long (lN j)), none, none, none, none, none, none], [.long (lN j), .ref (2 * s + 54), .ref 0], qS sw gc I J) (q_hn _ _ _ _) rfl ?_
  refine G_callV (b := 2 * s + 54) (ci := 5) (as := [.long (lN j)]) (rest := [.ref 0]) rfl rfl (q_shS (by omega)).1 (q_ltS (by omega)).1 (by decide) rfl rfl (Nat.le_of_ble_eq_true rfl) (GM_rl (x_cellAt hs hn hn60 (by omega)) hv0) x_out_n ?_
  refine G_st (L := 89) (k := 0) (31, [some (.ref 0), some (.ref (2 * s + 54)), some (.long (lN j)), none, none, none, none, none, none], [.long (lN k), .ref 0], qS sw gc I J) (q_hn _ _ _ _) rfl ?_
  refine G_callV (b := 0) (ci := 8) (as := [.long (lN k)]) (rest := []) rfl rfl rfl (q_lt (by decide)) (by decide) rfl rfl (Nat.le_of_ble_eq_true rfl) (x_gangAt hgc hg hk) x_out_n ?_
  refine G_st (L := 89) (k := 5) (40, [some (.ref 0), some (.ref (2 * s + 54)), some (.long (lN j)), none, some (.ref (2 * k + 89)), none, none, none, none], [.long ((lN j) + 1), .ref (2 * s + 54)], qS sw gc I J) (q_hn _ _ _ _) rfl ?_
  rw [show (lN j) + 1 = lN (j + 1) from (q_laddP rfl rfl)]
  refine G_callV (b := 2 * s + 54) (ci := 5) (as := [.long (lN (j + 1))]) (rest := []) rfl rfl (q_shS (by omega)).1 (q_ltS (by omega)).1 (by decide) rfl rfl (Nat.le_of_ble_eq_true rfl) (GM_rl (x_cellAt hs hn hn60 (by omega)) hv1) x_out_n ?_
  refine G_st (L := 89) (k := 5) (51, [some (.ref 0), some (.ref (2 * s + 54)), some (.long (lN j)), none, some (.ref (2 * k + 89)), some (.long (lN len)), none, none, none], [.long ((lN j) + 2), .ref (2 * s + 54)], qS sw gc I J) (q_hn _ _ _ _) rfl ?_
  rw [show (lN j) + 2 = lN (j + 2) from (q_laddP rfl rfl)]
  refine G_callV (b := 2 * s + 54) (ci := 5) (as := [.long (lN (j + 2))]) (rest := []) rfl rfl (q_shS (by omega)).1 (q_ltS (by omega)).1 (by decide) rfl rfl (Nat.le_of_ble_eq_true rfl) (GM_rl (x_cellAt hs hn hn60 (by omega)) hv2) x_out_n ?_
  refine G_st (L := 89) (k := 5) (65, [some (.ref 0), some (.ref (2 * s + 54)), some (.long (lN j)), none, some (.ref (2 * k + 89)), some (.long (lN len)), none, some (.long F), none], [.long F, .long (lN len)], qS sw gc I J) (q_hn _ _ _ _) rfl ?_
  refine G_callS (as := [.long (lN len), .long F]) (rest := []) rfl rfl rfl (Nat.le_of_ble_eq_true rfl) (GM_r (m_isBlock _ _) hb) x_out_n ?_
  refine G_st (L := 89) (k := 0) (68, [some (.ref 0), some (.ref (2 * s + 54)), some (.long (lN j)), none, some (.ref (2 * k + 89)), some (.long (lN len)), none, some (.long F), none], [.int 1], qS sw gc I J) (q_hn _ _ _ _) rfl ?_
  refine G_if_ne 74 rfl rfl (fun _ => ?_) (fun h9 => absurd h9 (by decide))
  refine G_st (L := 89) (k := 3) (80, [some (.ref 0), some (.ref (2 * s + 54)), some (.long (lN j)), none, some (.ref (2 * k + 89)), some (.long (lN len)), none, some (.long F), none], [.ref (2 * k + 89), .ref 14], qS sw gc I J) (q_hn _ _ _ _) rfl ?_
  refine G_get (ci := 1) (k := 4) (i := 2 * k + 89) rfl rfl (q_shG (by omega)).1 (q_ltG (by omega)).1 ?_
  refine G_st (L := 89) (k := 0) (83, [some (.ref 0), some (.ref (2 * s + 54)), some (.long (lN j)), none, some (.ref (2 * k + 89)), some (.long (lN len)), none, some (.long F), none], [.int (I (2 * k + 89) 4), .ref 14], qS sw gc I J) (q_hn _ _ _ _) rfl ?_
  rw [show I (2 * k + 89) 4 = nI w from hwk]
  refine G_callV (b := 14) (ci := 0) (as := [.int (nI w)]) (rest := []) rfl rfl rfl (q_lt (by decide)) (by decide) rfl rfl (Nat.le_of_ble_eq_true rfl) (GM_r (x_mayBeWorked hw) (congrArg q_b hmay)) x_out_n ?_
  refine G_st (L := 89) (k := 0) (86, [some (.ref 0), some (.ref (2 * s + 54)), some (.long (lN j)), none, some (.ref (2 * k + 89)), some (.long (lN len)), none, some (.long F), none], [.int 0], qS sw gc I J) (q_hn _ _ _ _) rfl ?_
  refine G_if_ne 92 rfl rfl (fun h9 => absurd h9 (by decide)) (fun _ => ?_)
  refine G_st (L := 89) (k := 1) (91, [some (.ref 0), some (.ref (2 * s + 54)), some (.long (lN j)), none, some (.ref (2 * k + 89)), some (.long (lN len)), none, some (.long F), none], [.int (-22)], qS sw gc I J) (q_hn _ _ _ _) rfl ?_
  exact G_iret rfl rfl rfl rfl
theorem x_hbO {d : Nat} {sw : Bool} {gc : Nat} {I : Nat → Nat → Int32} {J : Nat → Nat → Int64} {s j n : Nat} (hs : s < 4) (hn : I (2 * s + 54) 1 = nI n) (hn60 : n ≤ 60) (hj : j + 2 < n)  {k len : Nat} {F : Int64} (hv0 : J (2 * s + 55) j = lN k) (hv1 : J (2 * s + 55) (j + 1) = lN len) (hv2 : J (2 * s + 55) (j + 2) = F) (hgc : I 0 6 = nI gc) (hg : gc ≤ 8) (hk : k < gc) (hb : f_isBlock (lN len) F = 1) {w q c : Nat} {L : Nat → Nat} (hz : x_Sz I q L) (hl : len ≤ 40) (hl1 : 1 ≤ len) (hw : w < 30) (hwk : I (2 * k + 89) 4 = nI w) (hc : x_pds sw I = nI c) (hc4 : c ≤ 4) (hmay : x_may I w = true) : GM (d + 5) 97 [.ref 0, .ref (2 * s + 54), .long (lN j)] (qS sw gc I J) (some (.int 0)) (qS sw gc (x_wb sw I L q len F w k c) J) := by
  refine GM_of (by decide) (Nat.le_refl _) (Nat.le_of_ble_eq_true rfl) trivial ?_
  refine G_st (L := 89) (k := 0) (0, [some (.ref 0), some (.ref (2 * s + 54)), some (.long (lN j)), none, none, none, none, none, none], [], qS sw gc I J) (q_hn _ _ _ _) rfl ?_
  refine G_st (L := 89) (k := 2) (2, [some (.ref 0), some (.ref (2 * s + 54)), some (.long (lN j)), none, none, none, none, none, none], [.long (lN j), .ref (2 * s + 54)], qS sw gc I J) (q_hn _ _ _ _) rfl ?_
  refine G_callV (b := 2 * s + 54) (ci := 5) (as := [.long (lN j)]) (rest := []) rfl rfl (q_shS (by omega)).1 (q_ltS (by omega)).1 (by decide) rfl rfl (Nat.le_of_ble_eq_true rfl) (GM_r (r2 := 1) (x_hasCell hs) (by rw [hn, x_hc_in (by omega) hn60]; rfl)) x_out_n ?_
  refine G_st (L := 89) (k := 0) (5, [some (.ref 0), some (.ref (2 * s + 54)), some (.long (lN j)), none, none, none, none, none, none], [.int 1], qS sw gc I J) (q_hn _ _ _ _) rfl ?_
  refine G_if_eq 22 rfl rfl (fun h9 => absurd h9 (by decide)) (fun _ => ?_)
  refine G_st (L := 89) (k := 6) (16, [some (.ref 0), some (.ref (2 * s + 54)), some (.long (lN j)), none, none, none, none, none, none], [.long (((lN j) + 3) - 1), .ref (2 * s + 54)], qS sw gc I J) (q_hn _ _ _ _) rfl ?_
  rw [show ((lN j) + 3) - 1 = lN (j + 3 - 1) from (q_lsubP (q_laddP rfl rfl) rfl (by omega))]
  refine G_callV (b := 2 * s + 54) (ci := 5) (as := [.long (lN (j + 3 - 1))]) (rest := []) rfl rfl (q_shS (by omega)).1 (q_ltS (by omega)).1 (by decide) rfl rfl (Nat.le_of_ble_eq_true rfl) (GM_r (r2 := 1) (x_hasCell hs) (by rw [hn, x_hc_in (by omega) hn60]; rfl)) x_out_n ?_
  refine G_st (L := 89) (k := 0) (19, [some (.ref 0), some (.ref (2 * s + 54)), some (.long (lN j)), none, none, none, none, none, none], [.int 1], qS sw gc I J) (q_hn _ _ _ _) rfl ?_
  refine G_if_ne 25 rfl rfl (fun _ => ?_) (fun h9 => absurd h9 (by decide))
  refine G_st (L := 89) (k := 3) (28, [some (.ref 0), some (.ref (2 * s + 54)), some (.long (lN j)), none, none, none, none, none, none], [.long (lN j), .ref (2 * s + 54), .ref 0], qS sw gc I J) (q_hn _ _ _ _) rfl ?_
  refine G_callV (b := 2 * s + 54) (ci := 5) (as := [.long (lN j)]) (rest := [.ref 0]) rfl rfl (q_shS (by omega)).1 (q_ltS (by omega)).1 (by decide) rfl rfl (Nat.le_of_ble_eq_true rfl) (GM_rl (x_cellAt hs hn hn60 (by omega)) hv0) x_out_n ?_
  refine G_st (L := 89) (k := 0) (31, [some (.ref 0), some (.ref (2 * s + 54)), some (.long (lN j)), none, none, none, none, none, none], [.long (lN k), .ref 0], qS sw gc I J) (q_hn _ _ _ _) rfl ?_
  refine G_callV (b := 0) (ci := 8) (as := [.long (lN k)]) (rest := []) rfl rfl rfl (q_lt (by decide)) (by decide) rfl rfl (Nat.le_of_ble_eq_true rfl) (x_gangAt hgc hg hk) x_out_n ?_
  refine G_st (L := 89) (k := 5) (40, [some (.ref 0), some (.ref (2 * s + 54)), some (.long (lN j)), none, some (.ref (2 * k + 89)), none, none, none, none], [.long ((lN j) + 1), .ref (2 * s + 54)], qS sw gc I J) (q_hn _ _ _ _) rfl ?_
  rw [show (lN j) + 1 = lN (j + 1) from (q_laddP rfl rfl)]
  refine G_callV (b := 2 * s + 54) (ci := 5) (as := [.long (lN (j + 1))]) (rest := []) rfl rfl (q_shS (by omega)).1 (q_ltS (by omega)).1 (by decide) rfl rfl (Nat.le_of_ble_eq_true rfl) (GM_rl (x_cellAt hs hn hn60 (by omega)) hv1) x_out_n ?_
  refine G_st (L := 89) (k := 5) (51, [some (.ref 0), some (.ref (2 * s + 54)), some (.long (lN j)), none, some (.ref (2 * k + 89)), some (.long (lN len)), none, none, none], [.long ((lN j) + 2), .ref (2 * s + 54)], qS sw gc I J) (q_hn _ _ _ _) rfl ?_
  rw [show (lN j) + 2 = lN (j + 2) from (q_laddP rfl rfl)]
  refine G_callV (b := 2 * s + 54) (ci := 5) (as := [.long (lN (j + 2))]) (rest := []) rfl rfl (q_shS (by omega)).1 (q_ltS (by omega)).1 (by decide) rfl rfl (Nat.le_of_ble_eq_true rfl) (GM_rl (x_cellAt hs hn hn60 (by omega)) hv2) x_out_n ?_
  refine G_st (L := 89) (k := 5) (65, [some (.ref 0), some (.ref (2 * s + 54)), some (.long (lN j)), none, some (.ref (2 * k + 89)), some (.long (lN len)), none, some (.long F), none], [.long F, .long (lN len)], qS sw gc I J) (q_hn _ _ _ _) rfl ?_
  refine G_callS (as := [.long (lN len), .long F]) (rest := []) rfl rfl rfl (Nat.le_of_ble_eq_true rfl) (GM_r (m_isBlock _ _) hb) x_out_n ?_
  refine G_st (L := 89) (k := 0) (68, [some (.ref 0), some (.ref (2 * s + 54)), some (.long (lN j)), none, some (.ref (2 * k + 89)), some (.long (lN len)), none, some (.long F), none], [.int 1], qS sw gc I J) (q_hn _ _ _ _) rfl ?_
  refine G_if_ne 74 rfl rfl (fun _ => ?_) (fun h9 => absurd h9 (by decide))
  refine G_st (L := 89) (k := 3) (80, [some (.ref 0), some (.ref (2 * s + 54)), some (.long (lN j)), none, some (.ref (2 * k + 89)), some (.long (lN len)), none, some (.long F), none], [.ref (2 * k + 89), .ref 14], qS sw gc I J) (q_hn _ _ _ _) rfl ?_
  refine G_get (ci := 1) (k := 4) (i := 2 * k + 89) rfl rfl (q_shG (by omega)).1 (q_ltG (by omega)).1 ?_
  refine G_st (L := 89) (k := 0) (83, [some (.ref 0), some (.ref (2 * s + 54)), some (.long (lN j)), none, some (.ref (2 * k + 89)), some (.long (lN len)), none, some (.long F), none], [.int (I (2 * k + 89) 4), .ref 14], qS sw gc I J) (q_hn _ _ _ _) rfl ?_
  rw [show I (2 * k + 89) 4 = nI w from hwk]
  refine G_callV (b := 14) (ci := 0) (as := [.int (nI w)]) (rest := []) rfl rfl rfl (q_lt (by decide)) (by decide) rfl rfl (Nat.le_of_ble_eq_true rfl) (GM_r (x_mayBeWorked hw) (congrArg q_b hmay)) x_out_n ?_
  refine G_st (L := 89) (k := 0) (86, [some (.ref 0), some (.ref (2 * s + 54)), some (.long (lN j)), none, some (.ref (2 * k + 89)), some (.long (lN len)), none, some (.long F), none], [.int 1], qS sw gc I J) (q_hn _ _ _ _) rfl ?_
  refine G_if_ne 92 rfl rfl (fun _ => ?_) (fun h9 => absurd h9 (by decide))
  refine G_st (L := 89) (k := 5) (100, [some (.ref 0), some (.ref (2 * s + 54)), some (.long (lN j)), none, some (.ref (2 * k + 89)), some (.long (lN len)), none, some (.long F), none], [.long F, .int (Int64.toInt32 (lN len)), .ref (2 * k + 89), .ref 0], qS sw gc I J) (q_hn _ _ _ _) rfl ?_
  rw [show Int64.toInt32 (lN len) = nI len from (q_l2iP rfl)]
  refine G_callV (b := 0) (ci := 8) (as := [.ref (2 * k + 89), .int (nI len), .long F]) (rest := []) rfl rfl rfl (q_lt (by decide)) (by decide) rfl rfl (Nat.le_of_ble_eq_true rfl) (x_workBlock hz hl hl1 hb hk hg hw hwk hc hc4) x_out_n ?_
  refine G_st (L := 89) (k := 2) (105, [some (.ref 0), some (.ref (2 * s + 54)), some (.long (lN j)), none, some (.ref (2 * k + 89)), some (.long (lN len)), none, some (.long F), none], [.int 0], qS sw gc (x_wb sw I L q len F w k c) J) (q_hn _ _ _ _) rfl ?_
  exact G_iret rfl rfl rfl rfl
theorem x_haulK {d : Nat} {sw : Bool} {gc : Nat} {I : Nat → Nat → Int32} {J : Nat → Nat → Int64} {x u f m : Int32} (hx : x < 0 ∨ nI 4 ≤ x) : GM (d + 6) 89 [.ref 0, .int x, .int u, .int f, .int m] (qS sw gc I J) (some (.int (-1))) (qS sw gc I J) := by
  refine GM_of (by decide) (Nat.le_refl _) (Nat.le_of_ble_eq_true rfl) trivial ?_
  refine G_st (L := 89) (k := 0) (0, [some (.ref 0), some (.int x), some (.int u), some (.int f), some (.int m), none, none, none], [], qS sw gc I J) (q_hn _ _ _ _) rfl ?_
  refine G_st (L := 89) (k := 2) (2, [some (.ref 0), some (.int x), some (.int u), some (.int f), some (.int m), none, none, none], [.int x, .ref 0], qS sw gc I J) (q_hn _ _ _ _) rfl ?_
  refine G_callV (b := 0) (ci := 8) (as := [.int x]) (rest := []) rfl rfl rfl (q_lt (by decide)) (by decide) rfl rfl (Nat.le_of_ble_eq_true rfl) (x_sheetAtN hx) x_out_n ?_
  refine G_st (L := 89) (k := 4) (32, [some (.ref 0), some (.int x), some (.int u), some (.int f), some (.int m), some (.null), none, none], [.int (-1)], qS sw gc I J) (q_hn _ _ _ _) rfl ?_
  exact G_iret rfl rfl rfl rfl
theorem x_haulL {d : Nat} {sw : Bool} {gc : Nat} {I : Nat → Nat → Int32} {J : Nat → Nat → Int64} {s : Nat} {u f m : Int32} (hs : s < 4) (hln : f_isLane u = 0) : GM (d + 6) 89 [.ref 0, .int (nI s), .int u, .int f, .int m] (qS sw gc I J) (some (.int (-1))) (qS sw gc I J) := by
  refine GM_of (by decide) (Nat.le_refl _) (Nat.le_of_ble_eq_true rfl) trivial ?_
  refine G_st (L := 89) (k := 0) (0, [some (.ref 0), some (.int (nI s)), some (.int u), some (.int f), some (.int m), none, none, none], [], qS sw gc I J) (q_hn _ _ _ _) rfl ?_
  refine G_st (L := 89) (k := 2) (2, [some (.ref 0), some (.int (nI s)), some (.int u), some (.int f), some (.int m), none, none, none], [.int (nI s), .ref 0], qS sw gc I J) (q_hn _ _ _ _) rfl ?_
  refine G_callV (b := 0) (ci := 8) (as := [.int (nI s)]) (rest := []) rfl rfl rfl (q_lt (by decide)) (by decide) rfl rfl (Nat.le_of_ble_eq_true rfl) (x_sheetAt hs) x_out_n ?_
  refine G_st (L := 89) (k := 4) (13, [some (.ref 0), some (.int (nI s)), some (.int u), some (.int f), some (.int m), some (.ref (2 * s + 54)), none, none], [.int u], qS sw gc I J) (q_hn _ _ _ _) rfl ?_
  refine G_callS (as := [.int u]) (rest := []) rfl rfl rfl (Nat.le_of_ble_eq_true rfl) (GM_r (m_isLane _) hln) x_out_n ?_
  refine G_st (L := 89) (k := 0) (16, [some (.ref 0), some (.int (nI s)), some (.int u), some (.int f), some (.int m), some (.ref (2 * s + 54)), none, none], [.int 0], qS sw gc I J) (q_hn _ _ _ _) rfl ?_
  refine G_if_eq 31 rfl rfl (fun _ => ?_) (fun h9 => absurd h9 (by decide))
  refine G_st (L := 89) (k := 1) (32, [some (.ref 0), some (.int (nI s)), some (.int u), some (.int f), some (.int m), some (.ref (2 * s + 54)), none, none], [.int (-1)], qS sw gc I J) (q_hn _ _ _ _) rfl ?_
  exact G_iret rfl rfl rfl rfl
theorem x_haulM {d : Nat} {sw : Bool} {gc : Nat} {I : Nat → Nat → Int32} {J : Nat → Nat → Int64} {s : Nat} {u f m : Int32} (hs : s < 4) (hln : f_isLane u = 1) (hm : m < 0 ∨ ¬ m ≤ 20) : GM (d + 6) 89 [.ref 0, .int (nI s), .int u, .int f, .int m] (qS sw gc I J) (some (.int (-1))) (qS sw gc I J) := by
  refine GM_of (by decide) (Nat.le_refl _) (Nat.le_of_ble_eq_true rfl) trivial ?_
  refine G_st (L := 89) (k := 0) (0, [some (.ref 0), some (.int (nI s)), some (.int u), some (.int f), some (.int m), none, none, none], [], qS sw gc I J) (q_hn _ _ _ _) rfl ?_
  refine G_st (L := 89) (k := 2) (2, [some (.ref 0), some (.int (nI s)), some (.int u), some (.int f), some (.int m), none, none, none], [.int (nI s), .ref 0], qS sw gc I J) (q_hn _ _ _ _) rfl ?_
  refine G_callV (b := 0) (ci := 8) (as := [.int (nI s)]) (rest := []) rfl rfl rfl (q_lt (by decide)) (by decide) rfl rfl (Nat.le_of_ble_eq_true rfl) (x_sheetAt hs) x_out_n ?_
  refine G_st (L := 89) (k := 4) (13, [some (.ref 0), some (.int (nI s)), some (.int u), some (.int f), some (.int m), some (.ref (2 * s + 54)), none, none], [.int u], qS sw gc I J) (q_hn _ _ _ _) rfl ?_
  refine G_callS (as := [.int u]) (rest := []) rfl rfl rfl (Nat.le_of_ble_eq_true rfl) (GM_r (m_isLane _) hln) x_out_n ?_
  refine G_st (L := 89) (k := 0) (16, [some (.ref 0), some (.int (nI s)), some (.int u), some (.int f), some (.int m), some (.ref (2 * s + 54)), none, none], [.int 1], qS sw gc I J) (q_hn _ _ _ _) rfl ?_
  refine G_if_eq 31 rfl rfl (fun h9 => absurd h9 (by decide)) (fun _ => ?_)
  refine G_st (L := 89) (k := 1) (21, [some (.ref 0), some (.int (nI s)), some (.int u), some (.int f), some (.int m), some (.ref (2 * s + 54)), none, none], [.int m], qS sw gc I J) (q_hn _ _ _ _) rfl ?_
  refine G_if_lt 31 rfl rfl (fun h1 => ?_) (fun h1 => ?_)
  · skip
    refine G_st (L := 89) (k := 1) (32, [some (.ref 0), some (.int (nI s)), some (.int u), some (.int f), some (.int m), some (.ref (2 * s + 54)), none, none], [.int (-1)], qS sw gc I J) (q_hn _ _ _ _) rfl ?_
    exact G_iret rfl rfl rfl rfl
  · skip
    refine G_st (L := 89) (k := 2) (28, [some (.ref 0), some (.int (nI s)), some (.int u), some (.int f), some (.int m), some (.ref (2 * s + 54)), none, none], [.int 20, .int m], qS sw gc I J) (q_hn _ _ _ _) rfl ?_
    refine G_icmp_le 33 rfl rfl (fun h9 => absurd h9 (hm.resolve_left h1)) (fun _ => ?_)
    refine G_st (L := 89) (k := 1) (32, [some (.ref 0), some (.int (nI s)), some (.int u), some (.int f), some (.int m), some (.ref (2 * s + 54)), none, none], [.int (-1)], qS sw gc I J) (q_hn _ _ _ _) rfl ?_
    exact G_iret rfl rfl rfl rfl
theorem x_haulN {d : Nat} {sw : Bool} {gc : Nat} {I : Nat → Nat → Int32} {J : Nat → Nat → Int64} {s m : Nat} {u f : Int32} (hs : s < 4) (hln : f_isLane u = 1) (hm : m ≤ 20) (hnt : x_nth I s = true) : GM (d + 6) 89 [.ref 0, .int (nI s), .int u, .int f, .int (nI m)] (qS sw gc I J) (some (.int (-11))) (qS sw gc I J) := by
  refine GM_of (by decide) (Nat.le_refl _) (Nat.le_of_ble_eq_true rfl) trivial ?_
  refine G_st (L := 89) (k := 0) (0, [some (.ref 0), some (.int (nI s)), some (.int u), some (.int f), some (.int (nI m)), none, none, none], [], qS sw gc I J) (q_hn _ _ _ _) rfl ?_
  refine G_st (L := 89) (k := 2) (2, [some (.ref 0), some (.int (nI s)), some (.int u), some (.int f), some (.int (nI m)), none, none, none], [.int (nI s), .ref 0], qS sw gc I J) (q_hn _ _ _ _) rfl ?_
  refine G_callV (b := 0) (ci := 8) (as := [.int (nI s)]) (rest := []) rfl rfl rfl (q_lt (by decide)) (by decide) rfl rfl (Nat.le_of_ble_eq_true rfl) (x_sheetAt hs) x_out_n ?_
  refine G_st (L := 89) (k := 4) (13, [some (.ref 0), some (.int (nI s)), some (.int u), some (.int f), some (.int (nI m)), some (.ref (2 * s + 54)), none, none], [.int u], qS sw gc I J) (q_hn _ _ _ _) rfl ?_
  refine G_callS (as := [.int u]) (rest := []) rfl rfl rfl (Nat.le_of_ble_eq_true rfl) (GM_r (m_isLane _) hln) x_out_n ?_
  refine G_st (L := 89) (k := 0) (16, [some (.ref 0), some (.int (nI s)), some (.int u), some (.int f), some (.int (nI m)), some (.ref (2 * s + 54)), none, none], [.int 1], qS sw gc I J) (q_hn _ _ _ _) rfl ?_
  refine G_if_eq 31 rfl rfl (fun h9 => absurd h9 (by decide)) (fun _ => ?_)
  refine G_st (L := 89) (k := 1) (21, [some (.ref 0), some (.int (nI s)), some (.int u), some (.int f), some (.int (nI m)), some (.ref (2 * s + 54)), none, none], [.int (nI m)], qS sw gc I J) (q_hn _ _ _ _) rfl ?_
  refine G_if_lt 31 rfl rfl (fun h9 => absurd h9 (nI_nlt (b := 0) (by omega) (by omega))) (fun _ => ?_)
  refine G_st (L := 89) (k := 2) (28, [some (.ref 0), some (.int (nI s)), some (.int u), some (.int f), some (.int (nI m)), some (.ref (2 * s + 54)), none, none], [.int 20, .int (nI m)], qS sw gc I J) (q_hn _ _ _ _) rfl ?_
  refine G_icmp_le 33 rfl rfl (fun _ => ?_) (fun h9 => absurd (nI_le (b := 20) (by omega) (by decide)) h9)
  refine G_st (L := 89) (k := 1) (35, [some (.ref 0), some (.int (nI s)), some (.int u), some (.int f), some (.int (nI m)), some (.ref (2 * s + 54)), none, none], [.ref (2 * s + 54)], qS sw gc I J) (q_hn _ _ _ _) rfl ?_
  refine G_callV (b := 2 * s + 54) (ci := 5) (as := []) (rest := []) rfl rfl (q_shS (by omega)).1 (q_ltS (by omega)).1 (by decide) rfl rfl (Nat.le_of_ble_eq_true rfl) (GM_r (x_isNothing hs) (congrArg q_b hnt)) x_out_n ?_
  refine G_st (L := 89) (k := 0) (38, [some (.ref 0), some (.int (nI s)), some (.int u), some (.int f), some (.int (nI m)), some (.ref (2 * s + 54)), none, none], [.int 1], qS sw gc I J) (q_hn _ _ _ _) rfl ?_
  refine G_if_eq 44 rfl rfl (fun h9 => absurd h9 (by decide)) (fun _ => ?_)
  refine G_st (L := 89) (k := 1) (43, [some (.ref 0), some (.int (nI s)), some (.int u), some (.int f), some (.int (nI m)), some (.ref (2 * s + 54)), none, none], [.int (-11)], qS sw gc I J) (q_hn _ _ _ _) rfl ?_
  exact G_iret rfl rfl rfl rfl
theorem x_haulC {d : Nat} {sw : Bool} {gc : Nat} {I : Nat → Nat → Int32} {J : Nat → Nat → Int64} {s m : Nat} {u f : Int32} (hs : s < 4) (hln : f_isLane u = 1) (hm : m ≤ 20) (hnt : x_nth I s = false) (hla : ¬ I (2 * s + 54) 2 = u) : GM (d + 6) 89 [.ref 0, .int (nI s), .int u, .int f, .int (nI m)] (qS sw gc I J) (some (.int (-13))) (qS sw gc I J) := by
  refine GM_of (by decide) (Nat.le_refl _) (Nat.le_of_ble_eq_true rfl) trivial ?_
  refine G_st (L := 89) (k := 0) (0, [some (.ref 0), some (.int (nI s)), some (.int u), some (.int f), some (.int (nI m)), none, none, none], [], qS sw gc I J) (q_hn _ _ _ _) rfl ?_
  refine G_st (L := 89) (k := 2) (2, [some (.ref 0), some (.int (nI s)), some (.int u), some (.int f), some (.int (nI m)), none, none, none], [.int (nI s), .ref 0], qS sw gc I J) (q_hn _ _ _ _) rfl ?_
  refine G_callV (b := 0) (ci := 8) (as := [.int (nI s)]) (rest := []) rfl rfl rfl (q_lt (by decide)) (by decide) rfl rfl (Nat.le_of_ble_eq_true rfl) (x_sheetAt hs) x_out_n ?_
  refine G_st (L := 89) (k := 4) (13, [some (.ref 0), some (.int (nI s)), some (.int u), some (.int f), some (.int (nI m)), some (.ref (2 * s + 54)), none, none], [.int u], qS sw gc I J) (q_hn _ _ _ _) rfl ?_
  refine G_callS (as := [.int u]) (rest := []) rfl rfl rfl (Nat.le_of_ble_eq_true rfl) (GM_r (m_isLane _) hln) x_out_n ?_
  refine G_st (L := 89) (k := 0) (16, [some (.ref 0), some (.int (nI s)), some (.int u), some (.int f), some (.int (nI m)), some (.ref (2 * s + 54)), none, none], [.int 1], qS sw gc I J) (q_hn _ _ _ _) rfl ?_
  refine G_if_eq 31 rfl rfl (fun h9 => absurd h9 (by decide)) (fun _ => ?_)
  refine G_st (L := 89) (k := 1) (21, [some (.ref 0), some (.int (nI s)), some (.int u), some (.int f), some (.int (nI m)), some (.ref (2 * s + 54)), none, none], [.int (nI m)], qS sw gc I J) (q_hn _ _ _ _) rfl ?_
  refine G_if_lt 31 rfl rfl (fun h9 => absurd h9 (nI_nlt (b := 0) (by omega) (by omega))) (fun _ => ?_)
  refine G_st (L := 89) (k := 2) (28, [some (.ref 0), some (.int (nI s)), some (.int u), some (.int f), some (.int (nI m)), some (.ref (2 * s + 54)), none, none], [.int 20, .int (nI m)], qS sw gc I J) (q_hn _ _ _ _) rfl ?_
  refine G_icmp_le 33 rfl rfl (fun _ => ?_) (fun h9 => absurd (nI_le (b := 20) (by omega) (by decide)) h9)
  refine G_st (L := 89) (k := 1) (35, [some (.ref 0), some (.int (nI s)), some (.int u), some (.int f), some (.int (nI m)), some (.ref (2 * s + 54)), none, none], [.ref (2 * s + 54)], qS sw gc I J) (q_hn _ _ _ _) rfl ?_
  refine G_callV (b := 2 * s + 54) (ci := 5) (as := []) (rest := []) rfl rfl (q_shS (by omega)).1 (q_ltS (by omega)).1 (by decide) rfl rfl (Nat.le_of_ble_eq_true rfl) (GM_r (x_isNothing hs) (congrArg q_b hnt)) x_out_n ?_
  refine G_st (L := 89) (k := 0) (38, [some (.ref 0), some (.int (nI s)), some (.int u), some (.int f), some (.int (nI m)), some (.ref (2 * s + 54)), none, none], [.int 0], qS sw gc I J) (q_hn _ _ _ _) rfl ?_
  refine G_if_eq 44 rfl rfl (fun _ => ?_) (fun h9 => absurd h9 (by decide))
  refine G_st (L := 89) (k := 1) (46, [some (.ref 0), some (.int (nI s)), some (.int u), some (.int f), some (.int (nI m)), some (.ref (2 * s + 54)), none, none], [.ref (2 * s + 54)], qS sw gc I J) (q_hn _ _ _ _) rfl ?_
  refine G_get (ci := 5) (k := 2) (i := 2 * s + 54) rfl rfl (q_shS (by omega)).1 (q_ltS (by omega)).1 ?_
  refine G_st (L := 89) (k := 1) (50, [some (.ref 0), some (.int (nI s)), some (.int u), some (.int f), some (.int (nI m)), some (.ref (2 * s + 54)), none, none], [.int u, .int (I (2 * s + 54) 2)], qS sw gc I J) (q_hn _ _ _ _) rfl ?_
  refine G_icmp_eq 56 rfl rfl (fun h9 => absurd h9 hla) (fun _ => ?_)
  refine G_st (L := 89) (k := 1) (55, [some (.ref 0), some (.int (nI s)), some (.int u), some (.int f), some (.int (nI m)), some (.ref (2 * s + 54)), none, none], [.int (-13)], qS sw gc I J) (q_hn _ _ _ _) rfl ?_
  exact G_iret rfl rfl rfl rfl
/-- haul, up to its loop -/
theorem x_haulG {d : Nat} {sw : Bool} {gc : Nat} {I : Nat → Nat → Int32} {J : Nat → Nat → Int64} {s m : Nat} {u f : Int32} (hs : s < 4) (hln : f_isLane u = 1) (hm : m ≤ 20) (hnt : x_nth I s = false) (hla : I (2 * s + 54) 2 = u) {r : Int32} {I2 : Nat → Nat → Int32} {J2 : Nat → Nat → Int64} (g : G (d + 6) 89 (59, [some (.ref 0), some (.int (nI s)), some (.int u), some (.int f), some (.int (nI m)), some (.ref (2 * s + 54)), some (.int (nI 0)), none], [], qS sw gc I J) (some (.int r)) (qS sw gc I2 J2)) : GM (d + 6) 89 [.ref 0, .int (nI s), .int u, .int f, .int (nI m)] (qS sw gc I J) (some (.int r)) (qS sw gc I2 J2) := by
  refine GM_of (by decide) x_out_n (Nat.le_of_ble_eq_true rfl) trivial ?_
  refine G_st (L := 89) (k := 2) (2, [some (.ref 0), some (.int (nI s)), some (.int u), some (.int f), some (.int (nI m)), none, none, none], [.int (nI s), .ref 0], qS sw gc I J) (q_hn _ _ _ _) rfl ?_
  refine G_callV (b := 0) (ci := 8) (as := [.int (nI s)]) (rest := []) rfl rfl rfl (q_lt (by decide)) (by decide) rfl rfl (Nat.le_of_ble_eq_true rfl) (x_sheetAt hs) x_out_n ?_
  refine G_st (L := 89) (k := 4) (13, [some (.ref 0), some (.int (nI s)), some (.int u), some (.int f), some (.int (nI m)), some (.ref (2 * s + 54)), none, none], [.int u], qS sw gc I J) (q_hn _ _ _ _) rfl ?_
  refine G_callS (as := [.int u]) (rest := []) rfl rfl rfl (Nat.le_of_ble_eq_true rfl) (GM_r (m_isLane _) hln) x_out_n ?_
  refine G_st (L := 89) (k := 0) (16, [some (.ref 0), some (.int (nI s)), some (.int u), some (.int f), some (.int (nI m)), some (.ref (2 * s + 54)), none, none], [.int 1], qS sw gc I J) (q_hn _ _ _ _) rfl ?_
  refine G_if_eq 31 rfl rfl (fun h9 => absurd h9 (by decide)) (fun _ => ?_)
  refine G_st (L := 89) (k := 1) (21, [some (.ref 0), some (.int (nI s)), some (.int u), some (.int f), some (.int (nI m)), some (.ref (2 * s + 54)), none, none], [.int (nI m)], qS sw gc I J) (q_hn _ _ _ _) rfl ?_
  refine G_if_lt 31 rfl rfl (fun h9 => absurd h9 (nI_nlt (b := 0) (by omega) (by omega))) (fun _ => ?_)
  refine G_st (L := 89) (k := 2) (28, [some (.ref 0), some (.int (nI s)), some (.int u), some (.int f), some (.int (nI m)), some (.ref (2 * s + 54)), none, none], [.int 20, .int (nI m)], qS sw gc I J) (q_hn _ _ _ _) rfl ?_
  refine G_icmp_le 33 rfl rfl (fun _ => ?_) (fun h9 => absurd (nI_le (b := 20) (by omega) (by decide)) h9)
  refine G_st (L := 89) (k := 1) (35, [some (.ref 0), some (.int (nI s)), some (.int u), some (.int f), some (.int (nI m)), some (.ref (2 * s + 54)), none, none], [.ref (2 * s + 54)], qS sw gc I J) (q_hn _ _ _ _) rfl ?_
  refine G_callV (b := 2 * s + 54) (ci := 5) (as := []) (rest := []) rfl rfl (q_shS (by omega)).1 (q_ltS (by omega)).1 (by decide) rfl rfl (Nat.le_of_ble_eq_true rfl) (GM_r (x_isNothing hs) (congrArg q_b hnt)) x_out_n ?_
  refine G_st (L := 89) (k := 0) (38, [some (.ref 0), some (.int (nI s)), some (.int u), some (.int f), some (.int (nI m)), some (.ref (2 * s + 54)), none, none], [.int 0], qS sw gc I J) (q_hn _ _ _ _) rfl ?_
  refine G_if_eq 44 rfl rfl (fun _ => ?_) (fun h9 => absurd h9 (by decide))
  refine G_st (L := 89) (k := 1) (46, [some (.ref 0), some (.int (nI s)), some (.int u), some (.int f), some (.int (nI m)), some (.ref (2 * s + 54)), none, none], [.ref (2 * s + 54)], qS sw gc I J) (q_hn _ _ _ _) rfl ?_
  refine G_get (ci := 5) (k := 2) (i := 2 * s + 54) rfl rfl (q_shS (by omega)).1 (q_ltS (by omega)).1 ?_
  refine G_st (L := 89) (k := 1) (50, [some (.ref 0), some (.int (nI s)), some (.int u), some (.int f), some (.int (nI m)), some (.ref (2 * s + 54)), none, none], [.int u, .int (I (2 * s + 54) 2)], qS sw gc I J) (q_hn _ _ _ _) rfl ?_
  refine G_icmp_eq 56 rfl rfl (fun _ => ?_) (fun h9 => absurd hla h9)
  refine G_st (L := 89) (k := 2) (59, [some (.ref 0), some (.int (nI s)), some (.int u), some (.int f), some (.int (nI m)), some (.ref (2 * s + 54)), some (.int 0), none], [], qS sw gc I J) (q_hn _ _ _ _) rfl ?_
  exact g
/-- the loop: its end, a refusal, a block more -/
theorem x_haulE {d : Nat} {sw : Bool} {gc : Nat} {I : Nat → Nat → Int32} {J : Nat → Nat → Int64} {s m i : Nat} {u f : Int32} (hs : s < 4) (hm : m ≤ 20) (hi : i = m) : G (d + 6) 89 (59, [some (.ref 0), some (.int (nI s)), some (.int u), some (.int f), some (.int (nI m)), some (.ref (2 * s + 54)), some (.int (nI i)), none], [], qS sw gc I J) (some (.int (nI m))) (qS sw gc I J) := by
  subst hi
  refine G_st (L := 89) (k := 2) (63, [some (.ref 0), some (.int (nI s)), some (.int u), some (.int f), some (.int (nI i)), some (.ref (2 * s + 54)), some (.int (nI i)), none], [.int (nI i), .int (nI i)], qS sw gc I J) (q_hn _ _ _ _) rfl ?_
  refine G_icmp_ge 96 rfl rfl (fun _ => ?_) (fun h9 => absurd (nI_le (Nat.le_refl _) (by omega)) h9)
  refine G_st (L := 89) (k := 1) (98, [some (.ref 0), some (.int (nI s)), some (.int u), some (.int f), some (.int (nI i)), some (.ref (2 * s + 54)), some (.int (nI i)), none], [.int (nI i)], qS sw gc I J) (q_hn _ _ _ _) rfl ?_
  exact G_iret rfl rfl rfl rfl
theorem x_haulR {d : Nat} {sw : Bool} {gc : Nat} {I : Nat → Nat → Int32} {J : Nat → Nat → Int64} {s m i : Nat} {u f : Int32} (hs : s < 4) (hm : m ≤ 20) (hi : i < m) {r : Int32} (hr : ¬ r = 0) (hb : GM (d + 5) 97 [.ref 0, .ref (2 * s + 54), .long (Int32.toInt64 f + Int32.toInt64 (3 * nI i))] (qS sw gc I J) (some (.int r)) (qS sw gc I J)) : G (d + 6) 89 (59, [some (.ref 0), some (.int (nI s)), some (.int u), some (.int f), some (.int (nI m)), some (.ref (2 * s + 54)), some (.int (nI i)), none], [], qS sw gc I J) (some (.int r)) (qS sw gc I J) := by
  refine G_st (L := 89) (k := 2) (63, [some (.ref 0), some (.int (nI s)), some (.int u), some (.int f), some (.int (nI m)), some (.ref (2 * s + 54)), some (.int (nI i)), none], [.int (nI m), .int (nI i)], qS sw gc I J) (q_hn _ _ _ _) rfl ?_
  refine G_icmp_ge 96 rfl rfl (fun h9 => absurd h9 (nI_ge (by omega) (by omega))) (fun _ => ?_)
  refine G_st (L := 89) (k := 9) (77, [some (.ref 0), some (.int (nI s)), some (.int u), some (.int f), some (.int (nI m)), some (.ref (2 * s + 54)), some (.int (nI i)), none], [.long ((Int32.toInt64 f) + (Int32.toInt64 (3 * (nI i)))), .ref (2 * s + 54), .ref 0], qS sw gc I J) (q_hn _ _ _ _) rfl ?_
  refine G_callV (b := 0) (ci := 8) (as := [.ref (2 * s + 54), .long ((Int32.toInt64 f) + (Int32.toInt64 (3 * (nI i))))]) (rest := []) rfl rfl rfl (q_lt (by decide)) (by decide) rfl rfl (Nat.le_of_ble_eq_true rfl) hb x_out_n ?_
  refine G_st (L := 89) (k := 2) (84, [some (.ref 0), some (.int (nI s)), some (.int u), some (.int f), some (.int (nI m)), some (.ref (2 * s + 54)), some (.int (nI i)), some (.int r)], [.int r], qS sw gc I J) (q_hn _ _ _ _) rfl ?_
  refine G_if_eq 90 rfl rfl (fun h9 => absurd h9 hr) (fun _ => ?_)
  refine G_st (L := 89) (k := 1) (89, [some (.ref 0), some (.int (nI s)), some (.int u), some (.int f), some (.int (nI m)), some (.ref (2 * s + 54)), some (.int (nI i)), some (.int r)], [.int r], qS sw gc I J) (q_hn _ _ _ _) rfl ?_
  exact G_iret rfl rfl rfl rfl
theorem x_haulS {d : Nat} {sw : Bool} {gc : Nat} {I : Nat → Nat → Int32} {J : Nat → Nat → Int64} {s m i : Nat} {u f : Int32} (hs : s < 4) (hm : m ≤ 20) (hi : i < m) {r : Int32} {I1 I2 : Nat → Nat → Int32} {J1 J2 : Nat → Nat → Int64} (hb : GM (d + 5) 97 [.ref 0, .ref (2 * s + 54), .long (Int32.toInt64 f + Int32.toInt64 (3 * nI i))] (qS sw gc I J) (some (.int 0)) (qS sw gc I1 J1)) (g : G (d + 6) 89 (59, [some (.ref 0), some (.int (nI s)), some (.int u), some (.int f), some (.int (nI m)), some (.ref (2 * s + 54)), some (.int (nI (i + 1))), none], [], qS sw gc I1 J1) (some (.int r)) (qS sw gc I2 J2)) : G (d + 6) 89 (59, [some (.ref 0), some (.int (nI s)), some (.int u), some (.int f), some (.int (nI m)), some (.ref (2 * s + 54)), some (.int (nI i)), none], [], qS sw gc I J) (some (.int r)) (qS sw gc I2 J2) := by
  refine G_st (L := 89) (k := 2) (63, [some (.ref 0), some (.int (nI s)), some (.int u), some (.int f), some (.int (nI m)), some (.ref (2 * s + 54)), some (.int (nI i)), none], [.int (nI m), .int (nI i)], qS sw gc I J) (q_hn _ _ _ _) rfl ?_
  refine G_icmp_ge 96 rfl rfl (fun h9 => absurd h9 (nI_ge (by omega) (by omega))) (fun _ => ?_)
  refine G_st (L := 89) (k := 9) (77, [some (.ref 0), some (.int (nI s)), some (.int u), some (.int f), some (.int (nI m)), some (.ref (2 * s + 54)), some (.int (nI i)), none], [.long ((Int32.toInt64 f) + (Int32.toInt64 (3 * (nI i)))), .ref (2 * s + 54), .ref 0], qS sw gc I J) (q_hn _ _ _ _) rfl ?_
  refine G_callV (b := 0) (ci := 8) (as := [.ref (2 * s + 54), .long ((Int32.toInt64 f) + (Int32.toInt64 (3 * (nI i))))]) (rest := []) rfl rfl rfl (q_lt (by decide)) (by decide) rfl rfl (Nat.le_of_ble_eq_true rfl) hb x_out_n ?_
  refine G_st (L := 89) (k := 2) (84, [some (.ref 0), some (.int (nI s)), some (.int u), some (.int f), some (.int (nI m)), some (.ref (2 * s + 54)), some (.int (nI i)), some (.int 0)], [.int 0], qS sw gc I1 J1) (q_hn _ _ _ _) rfl ?_
  refine G_if_eq 90 rfl rfl (fun _ => ?_) (fun h9 => absurd h9 (by decide))
  refine G_st (L := 89) (k := 2) (59, [some (.ref 0), some (.int (nI s)), some (.int u), some (.int f), some (.int (nI m)), some (.ref (2 * s + 54)), some (.int ((nI i) + 1)), some (.int 0)], [], qS sw gc I1 J1) (q_hn _ _ _ _) rfl ?_
  rw [show (nI i) + 1 = nI (i + 1) from (q_addP rfl rfl)]
  refine G_fg [some (.ref 0), some (.int (nI s)), some (.int u), some (.int f), some (.int (nI m)), some (.ref (2 * s + 54)), some (.int (nI (i + 1))), none] (by repeat (first | exact trivial | refine ⟨rfl, ?_⟩)) ?_
  exact g
