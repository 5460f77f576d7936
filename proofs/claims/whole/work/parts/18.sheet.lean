def x_nth (I : Nat → Nat → Int32) (k : Nat) : Bool := decide (I (2 * k + 54) 2 = (-4))
theorem x_isNothing {d : Nat} {sw : Bool} {gc : Nat} {I : Nat → Nat → Int32} {J : Nat → Nat → Int64} {k : Nat} (hk : k < 4) : GM d 55 [.ref (2 * k + 54)] (qS sw gc I J) (some (.int (q_b (x_nth I k)))) (qS sw gc I J) := by
  refine GM_of (by decide) (Nat.le_refl _) (Nat.le_of_ble_eq_true rfl) q_bn ?_
  refine G_st (L := 89) (k := 0) (0, [some (.ref (2 * k + 54))], [], qS sw gc I J) (q_hn _ _ _ _) rfl ?_
  refine G_st (L := 89) (k := 1) (1, [some (.ref (2 * k + 54))], [.ref (2 * k + 54)], qS sw gc I J) (q_hn _ _ _ _) rfl ?_
  refine G_get (ci := 5) (k := 2) (i := 2 * k + 54) rfl rfl (q_shS (by omega)).1 (q_ltS (by omega)).1 ?_
  refine G_st (L := 89) (k := 1) (6, [some (.ref (2 * k + 54))], [.int (-4), .int (I (2 * k + 54) 2)], qS sw gc I J) (q_hn _ _ _ _) rfl ?_
  refine G_icmp_ne 13 rfl rfl (fun h1 => ?_) (fun h1 => ?_)
  · skip
    refine G_st (L := 89) (k := 1) (14, [some (.ref (2 * k + 54))], [.int 0], qS sw gc I J) (q_hn _ _ _ _) rfl ?_
    exact G_iret rfl rfl (by rw [x_nth, decide_eq_false h1]; rfl) rfl
  · skip
    refine G_st (L := 89) (k := 2) (14, [some (.ref (2 * k + 54))], [.int 1], qS sw gc I J) (q_hn _ _ _ _) rfl ?_
    exact G_iret rfl rfl (by rw [x_nth, decide_eq_true h1]; rfl) rfl
def x_hc (n : Int32) (i : Int64) : Bool := !decide (i < 0) && (!decide (Int32.toInt64 n ≤ i) && !decide (60 ≤ i))
theorem x_hasCell {d : Nat} {sw : Bool} {gc : Nat} {I : Nat → Nat → Int32} {J : Nat → Nat → Int64} {k : Nat} (hk : k < 4) {i : Int64} : GM d 57 [.ref (2 * k + 54), .long i] (qS sw gc I J) (some (.int (q_b (x_hc (I (2 * k + 54) 1) i)))) (qS sw gc I J) := by
  refine GM_of (by decide) (Nat.le_refl _) (Nat.le_of_ble_eq_true rfl) q_bn ?_
  refine G_st (L := 89) (k := 0) (0, [some (.ref (2 * k + 54)), some (.long i), none], [], qS sw gc I J) (q_hn _ _ _ _) rfl ?_
  refine G_st (L := 89) (k := 3) (3, [some (.ref (2 * k + 54)), some (.long i), none], [.int (lg_cmp i 0)], qS sw gc I J) (q_hn _ _ _ _) rfl ?_
  refine G_if_lt 28 rfl rfl (fun h1 => ?_) (fun h1 => ?_)
  · skip
    refine G_st (L := 89) (k := 1) (29, [some (.ref (2 * k + 54)), some (.long i), none], [.int 0], qS sw gc I J) (q_hn _ _ _ _) rfl ?_
    exact G_iret rfl rfl (by unfold x_hc; rw [decide_eq_true ((q_cmp_lt _ _).mp h1)]; simp only [Bool.not_true, Bool.not_false, Bool.false_and, Bool.true_and, Bool.and_false]; rfl) rfl
  · skip
    refine G_st (L := 89) (k := 2) (8, [some (.ref (2 * k + 54)), some (.long i), none], [.ref (2 * k + 54), .long i], qS sw gc I J) (q_hn _ _ _ _) rfl ?_
    refine G_get (ci := 5) (k := 1) (i := 2 * k + 54) rfl rfl (q_shS (by omega)).1 (q_ltS (by omega)).1 ?_
    refine G_st (L := 89) (k := 2) (13, [some (.ref (2 * k + 54)), some (.long i), none], [.int (lg_cmp i (Int32.toInt64 (I (2 * k + 54) 1)))], qS sw gc I J) (q_hn _ _ _ _) rfl ?_
    refine G_if_ge 28 rfl rfl (fun h2 => ?_) (fun h2 => ?_)
    · skip
      refine G_st (L := 89) (k := 1) (29, [some (.ref (2 * k + 54)), some (.long i), none], [.int 0], qS sw gc I J) (q_hn _ _ _ _) rfl ?_
      exact G_iret rfl rfl (by unfold x_hc; rw [decide_eq_false (fun z => h1 ((q_cmp_lt _ _).mpr z)), decide_eq_true ((q_cmp_ge _ _).mp h2)]; simp only [Bool.not_true, Bool.not_false, Bool.false_and, Bool.true_and, Bool.and_false]; rfl) rfl
    · skip
      refine G_st (L := 89) (k := 3) (21, [some (.ref (2 * k + 54)), some (.long i), none], [.int (lg_cmp i 60)], qS sw gc I J) (q_hn _ _ _ _) rfl ?_
      refine G_if_ge 28 rfl rfl (fun h3 => ?_) (fun h3 => ?_)
      · skip
        refine G_st (L := 89) (k := 1) (29, [some (.ref (2 * k + 54)), some (.long i), none], [.int 0], qS sw gc I J) (q_hn _ _ _ _) rfl ?_
        exact G_iret rfl rfl (by unfold x_hc; rw [decide_eq_false (fun z => h1 ((q_cmp_lt _ _).mpr z)), decide_eq_false (fun z => h2 ((q_cmp_ge _ _).mpr z)), decide_eq_true ((q_cmp_ge _ _).mp h3)]; simp only [Bool.not_true, Bool.not_false, Bool.false_and, Bool.true_and, Bool.and_false]; rfl) rfl
      · skip
        refine G_st (L := 89) (k := 2) (29, [some (.ref (2 * k + 54)), some (.long i), none], [.int 1], qS sw gc I J) (q_hn _ _ _ _) rfl ?_
        exact G_iret rfl rfl (by unfold x_hc; rw [decide_eq_false (fun z => h1 ((q_cmp_lt _ _).mpr z)), decide_eq_false (fun z => h2 ((q_cmp_ge _ _).mpr z)), decide_eq_false (fun z => h3 ((q_cmp_ge _ _).mpr z))]; rfl) rfl
theorem x_hc_in {n j : Nat} (h1 : j < n) (h2 : n ≤ 60) : x_hc (nI n) (lN j) = true := by
  unfold x_hc
  rw [nI_l (by omega)]
  rw [decide_eq_false (show ¬ lN j < 0 from fun z => by rw [show (0 : Int64) = lN 0 from rfl, lN_lt (by omega) (by decide)] at z; omega)]
  rw [decide_eq_false (show ¬ lN n ≤ lN j from fun z => by rw [lN_le (by omega) (by omega)] at z; omega)]
  rw [decide_eq_false (show ¬ (60 : Int64) ≤ lN j from fun z => by rw [show (60 : Int64) = lN 60 from rfl, lN_le (by decide) (by omega)] at z; omega)]
  rfl
theorem x_hc_out {n : Nat} {i : Int64} (h2 : n ≤ 60) (h : i < 0 ∨ lN n ≤ i) : x_hc (nI n) i = false := by
  unfold x_hc
  rcases h with h | h
  · rw [decide_eq_true h]; rfl
  · rw [nI_l (by omega), decide_eq_true h]
    simp only [Bool.not_true, Bool.false_and, Bool.and_false]
theorem q_li (j : Nat) : (lN j).toInt32 = nI j := lN_i j
def x_cut (l : Int32) (v : Int64) : Int64 := if l = 0 then Int32.toInt64 (Int8.toInt32 (Int32.toInt8 (Int64.toInt32 v))) else if l = 1 then Int32.toInt64 (Int16.toInt32 (Int32.toInt16 (Int64.toInt32 v))) else v
theorem x_cutToLane {d : Nat} {sw : Bool} {gc : Nat} {I : Nat → Nat → Int32} {J : Nat → Nat → Int64} {k : Nat} (hk : k < 4) {v : Int64} : GM d 59 [.ref (2 * k + 54), .long v] (qS sw gc I J) (some (.long (x_cut (I (2 * k + 54) 2) v))) (qS sw gc I J) := by
  refine GM_of (by decide) (Nat.le_refl _) (Nat.le_of_ble_eq_true rfl) trivial ?_
  refine G_st (L := 89) (k := 0) (0, [some (.ref (2 * k + 54)), some (.long v), none], [], qS sw gc I J) (q_hn _ _ _ _) rfl ?_
  refine G_st (L := 89) (k := 1) (1, [some (.ref (2 * k + 54)), some (.long v), none], [.ref (2 * k + 54)], qS sw gc I J) (q_hn _ _ _ _) rfl ?_
  refine G_get (ci := 5) (k := 2) (i := 2 * k + 54) rfl rfl (q_shS (by omega)).1 (q_ltS (by omega)).1 ?_
  refine G_st (L := 89) (k := 0) (4, [some (.ref (2 * k + 54)), some (.long v), none], [.int (I (2 * k + 54) 2)], qS sw gc I J) (q_hn _ _ _ _) rfl ?_
  by_cases h1 : (I (2 * k + 54) 2) = 0
  · refine G_ls 32 rfl (by decide) (off := 28) (by rw [h1]; rfl) rfl ?_
    refine G_st (L := 89) (k := 4) (36, [some (.ref (2 * k + 54)), some (.long v), none], [.long (Int32.toInt64 (Int8.toInt32 (Int32.toInt8 (Int64.toInt32 v))))], qS sw gc I J) (q_hn _ _ _ _) rfl ?_
    exact G_lret rfl rfl (by rw [x_cut, if_pos h1]) rfl
  · by_cases h2 : (I (2 * k + 54) 2) = 1
    · refine G_ls 37 rfl (by decide) (off := 33) (by rw [h2]; rfl) rfl ?_
      refine G_st (L := 89) (k := 4) (41, [some (.ref (2 * k + 54)), some (.long v), none], [.long (Int32.toInt64 (Int16.toInt32 (Int32.toInt16 (Int64.toInt32 v))))], qS sw gc I J) (q_hn _ _ _ _) rfl ?_
      exact G_lret rfl rfl (by rw [x_cut, if_neg h1, if_pos h2]) rfl
    · refine G_ls 42 rfl (by decide) (off := 38) ((lv_osw h1 rfl).trans ((lv_osw h2 rfl).trans rfl)) rfl ?_
      refine G_st (L := 89) (k := 1) (43, [some (.ref (2 * k + 54)), some (.long v), none], [.long v], qS sw gc I J) (q_hn _ _ _ _) rfl ?_
      exact G_lret rfl rfl (by rw [x_cut, if_neg h1, if_neg h2]) rfl
theorem x_setCell {d : Nat} {sw : Bool} {gc : Nat} {I : Nat → Nat → Int32} {J : Nat → Nat → Int64} {k : Nat} (hk : k < 4) {n j : Nat} (hn : I (2 * k + 54) 1 = nI n) (hn60 : n ≤ 60) (hj : j < n) {v : Int64} : GM (d + 1) 58 [.ref (2 * k + 54), .int (nI j), .long v] (qS sw gc I J) (none) (qS sw gc I (q_u J (2 * k + 55) j (x_cut (I (2 * k + 54) 2) v))) := by
  refine GM_of (by decide) (Nat.le_refl _) (Nat.le_of_ble_eq_true rfl) trivial ?_
  refine G_st (L := 89) (k := 0) (0, [some (.ref (2 * k + 54)), some (.int (nI j)), some (.long v), none], [], qS sw gc I J) (q_hn _ _ _ _) rfl ?_
  refine G_st (L := 89) (k := 3) (3, [some (.ref (2 * k + 54)), some (.int (nI j)), some (.long v), none], [.long (Int32.toInt64 (nI j)), .ref (2 * k + 54)], qS sw gc I J) (q_hn _ _ _ _) rfl ?_
  rw [show Int32.toInt64 (nI j) = lN j from (q_i2lP rfl (by omega))]
  have hc9 := x_hasCell (d := d) (sw := sw) (gc := gc) (I := I) (J := J) hk (i := lN j)
  rw [hn, x_hc_in hj hn60] at hc9
  refine G_callV (b := 2 * k + 54) (ci := 5) (as := [.long (lN j)]) (rest := []) rfl rfl (q_shS (by omega)).1 (q_ltS (by omega)).1 (by decide) rfl rfl (Nat.le_of_ble_eq_true rfl) hc9 (Nat.le_refl _) ?_
  refine G_st (L := 89) (k := 0) (6, [some (.ref (2 * k + 54)), some (.int (nI j)), some (.long v), none], [.int 1], qS sw gc I J) (q_hn _ _ _ _) rfl ?_
  refine G_if_eq 20 rfl rfl (fun h9 => absurd h9 (by decide)) (fun _ => ?_)
  refine G_st (L := 89) (k := 1) (10, [some (.ref (2 * k + 54)), some (.int (nI j)), some (.long v), none], [.ref (2 * k + 54)], qS sw gc I J) (q_hn _ _ _ _) rfl ?_
  refine G_get (ci := 5) (k := 0) (i := 2 * k + 54) rfl rfl (q_shS (by omega)).1 (q_ltS (by omega)).1 ?_
  rw [show q_av (qS sw gc I J) (2 * k + 54) (q_fty 5 0) 0 = .ref (2 * k + 55) from congrArg va_rf (@q_rfS sw gc _ (by omega)).2]
  refine G_st (L := 89) (k := 3) (16, [some (.ref (2 * k + 54)), some (.int (nI j)), some (.long v), none], [.long v, .ref (2 * k + 54), .int (nI j), .ref (2 * k + 55)], qS sw gc I J) (q_hn _ _ _ _) rfl ?_
  refine G_callV (b := 2 * k + 54) (ci := 5) (as := [.long v]) (rest := [.int (nI j), .ref (2 * k + 55)]) rfl rfl (q_shS (by omega)).1 (q_ltS (by omega)).1 (by decide) rfl rfl (Nat.le_of_ble_eq_true rfl) (x_cutToLane hk) (Nat.le_refl _) ?_
  refine G_st (L := 89) (k := 0) (19, [some (.ref (2 * k + 54)), some (.int (nI j)), some (.long v), none], [.long (x_cut (I (2 * k + 54) 2) v), .int (nI j), .ref (2 * k + 55)], qS sw gc I J) (q_hn _ _ _ _) rfl ?_
  refine G_last (i := 2 * k + 55) (n := 60) rfl (q_shS (by omega)).2 (q_ltS (by omega)).2 (vp_in_nI (by omega) (by decide)) ?_
  rw [q_clamp (n := j) (by omega)]
  refine G_st (L := 89) (k := 0) (20, [some (.ref (2 * k + 54)), some (.int (nI j)), some (.long v), none], [], qS sw gc I (q_u J (2 * k + 55) j (x_cut (I (2 * k + 54) 2) v))) (q_hn _ _ _ _) rfl ?_
  exact G_ret rfl rfl rfl rfl
theorem x_cellAt {d : Nat} {sw : Bool} {gc : Nat} {I : Nat → Nat → Int32} {J : Nat → Nat → Int64} {k : Nat} (hk : k < 4) {n j : Nat} (hn : I (2 * k + 54) 1 = nI n) (hn60 : n ≤ 60) (hj : j < n) : GM (d + 1) 60 [.ref (2 * k + 54), .long (lN j)] (qS sw gc I J) (some (.long (J (2 * k + 55) j))) (qS sw gc I J) := by
  refine GM_of (by decide) (Nat.le_refl _) (Nat.le_of_ble_eq_true rfl) trivial ?_
  refine G_st (L := 89) (k := 0) (0, [some (.ref (2 * k + 54)), some (.long (lN j)), none], [], qS sw gc I J) (q_hn _ _ _ _) rfl ?_
  refine G_st (L := 89) (k := 2) (2, [some (.ref (2 * k + 54)), some (.long (lN j)), none], [.long (lN j), .ref (2 * k + 54)], qS sw gc I J) (q_hn _ _ _ _) rfl ?_
  have hc9 := x_hasCell (d := d) (sw := sw) (gc := gc) (I := I) (J := J) hk (i := lN j)
  rw [hn, x_hc_in hj hn60] at hc9
  refine G_callV (b := 2 * k + 54) (ci := 5) (as := [.long (lN j)]) (rest := []) rfl rfl (q_shS (by omega)).1 (q_ltS (by omega)).1 (by decide) rfl rfl (Nat.le_of_ble_eq_true rfl) hc9 (Nat.le_refl _) ?_
  refine G_st (L := 89) (k := 0) (5, [some (.ref (2 * k + 54)), some (.long (lN j)), none], [.int 1], qS sw gc I J) (q_hn _ _ _ _) rfl ?_
  refine G_if_eq 18 rfl rfl (fun h9 => absurd h9 (by decide)) (fun _ => ?_)
  refine G_st (L := 89) (k := 1) (9, [some (.ref (2 * k + 54)), some (.long (lN j)), none], [.ref (2 * k + 54)], qS sw gc I J) (q_hn _ _ _ _) rfl ?_
  refine G_get (ci := 5) (k := 0) (i := 2 * k + 54) rfl rfl (q_shS (by omega)).1 (q_ltS (by omega)).1 ?_
  rw [show q_av (qS sw gc I J) (2 * k + 54) (q_fty 5 0) 0 = .ref (2 * k + 55) from congrArg va_rf (@q_rfS sw gc _ (by omega)).2]
  refine G_st (L := 89) (k := 2) (14, [some (.ref (2 * k + 54)), some (.long (lN j)), none], [.int (Int64.toInt32 (lN j)), .ref (2 * k + 55)], qS sw gc I J) (q_hn _ _ _ _) rfl ?_
  refine G_lald (i := 2 * k + 55) (n := 60) rfl (q_shS (by omega)).2 (q_ltS (by omega)).2 (by rw [q_li]; exact vp_in_nI (by omega) (by decide)) ?_
  rw [q_li, q_clamp (n := j) (by omega)]
  refine G_st (L := 89) (k := 1) (19, [some (.ref (2 * k + 54)), some (.long (lN j)), none], [.long (J (2 * k + 55) j)], qS sw gc I J) (q_hn _ _ _ _) rfl ?_
  exact G_lret rfl rfl rfl rfl
def q_filL (J : Nat → Nat → Int64) (r i n : Nat) (v : Int64) : Nat → Nat → Int64 := fun a b => if a = r ∧ i ≤ b ∧ b < n then v else J a b
theorem q_filL_step (J : Nat → Nat → Int64) {r i n : Nat} (v : Int64) (h : i < n) : q_filL (q_u J r i v) r (i + 1) n v = q_filL J r i n v := by
  funext a b
  unfold q_filL q_u
  by_cases h1 : a = r ∧ b = i
  · rw [if_pos h1, if_pos (show a = r ∧ i ≤ b ∧ b < n by omega)]; split <;> rfl
  · rw [if_neg h1]
    by_cases h2 : a = r ∧ i + 1 ≤ b ∧ b < n
    · rw [if_pos h2, if_pos (by omega)]
    · rw [if_neg h2, if_neg (by omega)]
theorem q_filL_end (J : Nat → Nat → Int64) (r n : Nat) (v : Int64) : q_filL J r n n v = J := by
  funext a b
  unfold q_filL
  rw [if_neg (by omega)]
theorem x_fillL_loop {d : Nat} {sw : Bool} {gc : Nat} {I : Nat → Nat → Int32} {v : Int64} {k : Nat} (hk : k < 4) : ∀ (n i : Nat) (J : Nat → Nat → Int64), i + n = 60 → G d 158 (6, [some (.ref (2 * k + 55)), some (.long v), none, some (.int (nI i)), some (.int 60)], [], qS sw gc I J) none (qS sw gc I (q_filL J (2 * k + 55) i 60 v)) := by
  intro n
  induction n with
  | zero =>
    intro i J h
    obtain rfl : i = 60 := by omega
    rw [q_filL_end]
    refine G_st (L := 89) (k := 2) (9, [some (.ref (2 * k + 55)), some (.long v), none, some (.int 60), some (.int 60)], [.int 60, .int 60], qS sw gc I J) (q_hn _ _ _ _) rfl ?_
    refine G_icmp_ge 22 rfl rfl (fun _ => ?_) (fun h9 => absurd h9 (by decide))
    exact G_ret rfl rfl rfl rfl
  | succ n ih =>
    intro i J h
    rw [← q_filL_step J v (by omega)]
    refine G_st (L := 89) (k := 2) (9, [some (.ref (2 * k + 55)), some (.long v), none, some (.int (nI i)), some (.int 60)], [.int 60, .int (nI i)], qS sw gc I J) (q_hn _ _ _ _) rfl ?_
    refine G_icmp_ge 22 rfl rfl (fun h9 => absurd h9 (nI_ge (b := 60) (by omega) (by decide))) (fun _ => ?_)
    refine G_st (L := 89) (k := 3) (15, [some (.ref (2 * k + 55)), some (.long v), none, some (.int (nI i)), some (.int 60)], [.long v, .int (nI i), .ref (2 * k + 55)], qS sw gc I J) (q_hn _ _ _ _) rfl ?_
    refine G_last (i := 2 * k + 55) (n := 60) rfl (q_shS (by omega)).2 (q_ltS (by omega)).2 (vp_in_nI (by omega) (by decide)) ?_
    rw [q_clamp (n := i) (by omega)]
    refine G_st (L := 89) (k := 2) (6, [some (.ref (2 * k + 55)), some (.long v), none, some (.int ((nI i) + 1)), some (.int 60)], [], qS sw gc I (q_u J (2 * k + 55) i v)) (q_hn _ _ _ _) rfl ?_
    rw [show (nI i) + 1 = nI (i + 1) from (q_addP rfl rfl)]
    exact ih (i + 1) _ (by omega)
theorem x_fillL {d : Nat} {sw : Bool} {gc : Nat} {I : Nat → Nat → Int32} {J : Nat → Nat → Int64} {k : Nat} (hk : k < 4) {v : Int64} : GM d 158 [.ref (2 * k + 55), .long v] (qS sw gc I J) (none) (qS sw gc I (q_filL J (2 * k + 55) 0 60 v)) := by
  refine GM_of (by decide) (Nat.le_refl _) (Nat.le_of_ble_eq_true rfl) trivial ?_
  refine G_st (L := 89) (k := 0) (0, [some (.ref (2 * k + 55)), some (.long v), none, none, none], [], qS sw gc I J) (q_hn _ _ _ _) rfl ?_
  refine G_st (L := 89) (k := 3) (3, [some (.ref (2 * k + 55)), some (.long v), none, some (.int 0), none], [.ref (2 * k + 55)], qS sw gc I J) (q_hn _ _ _ _) rfl ?_
  refine G_alen (t := 3) (n := 60) (x := 60) rfl (q_shS (by omega)).2 (by decide) (q_ltS (by omega)).2 rfl ?_
  refine G_st (L := 89) (k := 1) (6, [some (.ref (2 * k + 55)), some (.long v), none, some (.int 0), some (.int 60)], [], qS sw gc I J) (q_hn _ _ _ _) rfl ?_
  exact x_fillL_loop hk 60 0 J rfl
theorem x_renew {d : Nat} {sw : Bool} {gc : Nat} {I : Nat → Nat → Int32} {J : Nat → Nat → Int64} {k : Nat} (hk : k < 4) {a b : Int32} : GM (d + 1) 56 [.ref (2 * k + 54), .int a, .int b] (qS sw gc I J) (none) (qS sw gc (q_u (q_u I (2 * k + 54) 2 a) (2 * k + 54) 1 b) (q_filL J (2 * k + 55) 0 60 0)) := by
  refine GM_of (by decide) (Nat.le_refl _) (Nat.le_of_ble_eq_true rfl) trivial ?_
  refine G_st (L := 89) (k := 0) (0, [some (.ref (2 * k + 54)), some (.int a), some (.int b)], [], qS sw gc I J) (q_hn _ _ _ _) rfl ?_
  refine G_st (L := 89) (k := 2) (2, [some (.ref (2 * k + 54)), some (.int a), some (.int b)], [.int a, .ref (2 * k + 54)], qS sw gc I J) (q_hn _ _ _ _) rfl ?_
  refine G_put (ci := 5) (k := 2) (i := 2 * k + 54) (M1 := qS sw gc (q_u I (2 * k + 54) 2 a) J) rfl rfl (q_shS (by omega)).1 (q_ltS (by omega)).1 rfl rfl rfl ?_
  refine G_st (L := 89) (k := 2) (7, [some (.ref (2 * k + 54)), some (.int a), some (.int b)], [.int b, .ref (2 * k + 54)], qS sw gc (q_u I (2 * k + 54) 2 a) J) (q_hn _ _ _ _) rfl ?_
  refine G_put (ci := 5) (k := 1) (i := 2 * k + 54) (M1 := qS sw gc (q_u (q_u I (2 * k + 54) 2 a) (2 * k + 54) 1 b) J) rfl rfl (q_shS (by omega)).1 (q_ltS (by omega)).1 rfl rfl rfl ?_
  refine G_st (L := 89) (k := 1) (11, [some (.ref (2 * k + 54)), some (.int a), some (.int b)], [.ref (2 * k + 54)], qS sw gc (q_u (q_u I (2 * k + 54) 2 a) (2 * k + 54) 1 b) J) (q_hn _ _ _ _) rfl ?_
  refine G_get (ci := 5) (k := 0) (i := 2 * k + 54) rfl rfl (q_shS (by omega)).1 (q_ltS (by omega)).1 ?_
  rw [show q_av (qS sw gc (q_u (q_u I (2 * k + 54) 2 a) (2 * k + 54) 1 b) J) (2 * k + 54) (q_fty 5 0) 0 = .ref (2 * k + 55) from congrArg va_rf (@q_rfS sw gc _ (by omega)).2]
  refine G_st (L := 89) (k := 1) (15, [some (.ref (2 * k + 54)), some (.int a), some (.int b)], [.long 0, .ref (2 * k + 55)], qS sw gc (q_u (q_u I (2 * k + 54) 2 a) (2 * k + 54) 1 b) J) (q_hn _ _ _ _) rfl ?_
  refine G_callS (as := [.ref (2 * k + 55), .long 0]) (rest := []) rfl rfl rfl (Nat.le_of_ble_eq_true rfl) (x_fillL hk) (Nat.le_refl _) ?_
  refine G_st (L := 89) (k := 0) (18, [some (.ref (2 * k + 54)), some (.int a), some (.int b)], [], qS sw gc (q_u (q_u I (2 * k + 54) 2 a) (2 * k + 54) 1 b) (q_filL J (2 * k + 55) 0 60 0)) (q_hn _ _ _ _) rfl ?_
  exact G_ret rfl rfl rfl rfl
