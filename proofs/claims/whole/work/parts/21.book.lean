def x_bk (sw : Bool) : Nat := cond sw 9 4
theorem f_isNumberLaw_in {k : Nat} (h : k < 4) : f_isNumberLaw (nI k) = 1 := by
  unfold f_isNumberLaw
  rcases (show k = 0 ∨ k = 1 ∨ k = 2 ∨ k = 3 by omega) with rfl | rfl | rfl | rfl <;> decide
theorem x_numberOf4 {d : Nat} {sw : Bool} {gc : Nat} {I : Nat → Nat → Int32} {J : Nat → Nat → Int64} {k : Nat} (hk : k < 4) : GM (d + 1) 27 [.ref 4, .int (nI k)] (qS sw gc I J) (some (.int (I 5 k))) (qS sw gc I J) := by
  have hnl := m_isNumberLaw (d := d) (M := qS sw gc I J) (nI k)
  rw [f_isNumberLaw_in hk] at hnl
  refine GM_of (by decide) (Nat.le_refl _) (Nat.le_of_ble_eq_true rfl) trivial ?_
  refine G_st (L := 89) (k := 0) (0, [some (.ref 4), some (.int (nI k))], [], qS sw gc I J) (q_hn _ _ _ _) rfl ?_
  refine G_st (L := 89) (k := 1) (1, [some (.ref 4), some (.int (nI k))], [.int (nI k)], qS sw gc I J) (q_hn _ _ _ _) rfl ?_
  refine G_callS (as := [.int (nI k)]) (rest := []) rfl rfl rfl (Nat.le_of_ble_eq_true rfl) hnl (Nat.le_refl _) ?_
  refine G_st (L := 89) (k := 0) (4, [some (.ref 4), some (.int (nI k))], [.int 1], qS sw gc I J) (q_hn _ _ _ _) rfl ?_
  refine G_if_eq 16 rfl rfl (fun h9 => absurd h9 (by decide)) (fun _ => ?_)
  refine G_st (L := 89) (k := 3) (12, [some (.ref 4), some (.int (nI k))], [.int (nI k), .ref 5], qS sw gc I J) (q_hn _ _ _ _) rfl ?_
  refine G_iald (i := 5) (n := 4) rfl rfl (q_lt (by decide)) (vp_in_nI (by omega) (by decide)) ?_
  rw [q_clamp (n := k) (by omega)]
  refine G_st (L := 89) (k := 1) (18, [some (.ref 4), some (.int (nI k))], [.int (I 5 k)], qS sw gc I J) (q_hn _ _ _ _) rfl ?_
  exact G_iret rfl rfl rfl rfl
def x_pd4 (I : Nat → Nat → Int32) (g : Int32) : Nat → Nat → Int32
  | 0, _ => 0
  | m + 1, i => if (I 7 i) < g then x_pd4 I g m (i + 1) else I 8 i
theorem x_pd4_loop {d : Nat} {sw : Bool} {gc : Nat} {I : Nat → Nat → Int32} {J : Nat → Nat → Int64} {g : Int32} {c : Nat} (hc : I 4 4 = nI c) (hc4 : c ≤ 4) : ∀ (m i : Nat), i + m = c → G d 28 (2, [some (.ref 4), some (.int g), some (.int (nI i))], [], qS sw gc I J) (some (.int (x_pd4 I g m i))) (qS sw gc I J) := by
  intro m
  induction m with
  | zero =>
    intro i h
    obtain rfl : i = c := by omega
    refine G_st (L := 89) (k := 3) (7, [some (.ref 4), some (.int g), some (.int (nI i))], [.int (I 4 4), .int (nI i)], qS sw gc I J) (q_hn _ _ _ _) rfl ?_
    rw [show I 4 4 = nI i from hc]
    refine G_icmp_ge 38 rfl rfl (fun _ => ?_) (fun h9 => absurd (nI_le (Nat.le_refl _) (by omega)) h9)
    refine G_st (L := 89) (k := 1) (39, [some (.ref 4), some (.int g), some (.int (nI i))], [.int 0], qS sw gc I J) (q_hn _ _ _ _) rfl ?_
    exact G_iret rfl rfl rfl rfl
  | succ m ih =>
    intro i h
    refine G_st (L := 89) (k := 3) (7, [some (.ref 4), some (.int g), some (.int (nI i))], [.int (I 4 4), .int (nI i)], qS sw gc I J) (q_hn _ _ _ _) rfl ?_
    rw [show I 4 4 = nI c from hc]
    refine G_icmp_ge 38 rfl rfl (fun h9 => absurd h9 (nI_ge (by omega) (by omega))) (fun _ => ?_)
    refine G_st (L := 89) (k := 2) (12, [some (.ref 4), some (.int g), some (.int (nI i))], [.int 4, .int (nI i)], qS sw gc I J) (q_hn _ _ _ _) rfl ?_
    refine G_icmp_ge 38 rfl rfl (fun h9 => absurd h9 (nI_ge (b := 4) (by omega) (by decide))) (fun _ => ?_)
    refine G_st (L := 89) (k := 3) (20, [some (.ref 4), some (.int g), some (.int (nI i))], [.int (nI i), .ref 7], qS sw gc I J) (q_hn _ _ _ _) rfl ?_
    refine G_iald (i := 7) (n := 4) rfl rfl (q_lt (by decide)) (vp_in_nI (by omega) (by decide)) ?_
    rw [q_clamp (n := i) (by omega)]
    refine G_st (L := 89) (k := 1) (22, [some (.ref 4), some (.int g), some (.int (nI i))], [.int g, .int (I 7 i)], qS sw gc I J) (q_hn _ _ _ _) rfl ?_
    refine G_icmp_lt 32 rfl rfl (fun h1 => ?_) (fun h1 => ?_)
    · skip
      refine G_st (L := 89) (k := 2) (2, [some (.ref 4), some (.int g), some (.int ((nI i) + 1))], [], qS sw gc I J) (q_hn _ _ _ _) rfl ?_
      rw [show (nI i) + 1 = nI (i + 1) from (q_addP rfl rfl)]
      rw [x_pd4, if_pos h1]
      exact ih (i + 1) (by omega)
    · skip
      refine G_st (L := 89) (k := 3) (30, [some (.ref 4), some (.int g), some (.int (nI i))], [.int (nI i), .ref 8], qS sw gc I J) (q_hn _ _ _ _) rfl ?_
      refine G_iald (i := 8) (n := 4) rfl rfl (q_lt (by decide)) (vp_in_nI (by omega) (by decide)) ?_
      rw [q_clamp (n := i) (by omega)]
      refine G_st (L := 89) (k := 0) (31, [some (.ref 4), some (.int g), some (.int (nI i))], [.int (I 8 i)], qS sw gc I J) (q_hn _ _ _ _) rfl ?_
      exact G_iret rfl rfl (by rw [x_pd4, if_neg h1]) rfl
theorem x_poundageOf4 {d : Nat} {sw : Bool} {gc : Nat} {I : Nat → Nat → Int32} {J : Nat → Nat → Int64} {g : Int32} {c : Nat} (hc : I 4 4 = nI c) (hc4 : c ≤ 4) : GM d 28 [.ref 4, .int g] (qS sw gc I J) (some (.int (x_pd4 I g c 0))) (qS sw gc I J) := by
  refine GM_of (by decide) (Nat.le_refl _) (Nat.le_of_ble_eq_true rfl) trivial ?_
  refine G_st (L := 89) (k := 0) (0, [some (.ref 4), some (.int g), none], [], qS sw gc I J) (q_hn _ _ _ _) rfl ?_
  refine G_st (L := 89) (k := 2) (2, [some (.ref 4), some (.int g), some (.int 0)], [], qS sw gc I J) (q_hn _ _ _ _) rfl ?_
  exact x_pd4_loop hc hc4 c 0 (by omega)
def x_la4 (I : Nat → Nat → Int32) (p : Int32) : Bool := decide (I 5 0 = (-4)) || !decide (I 5 0 < p)
theorem x_letsAsk4 {d : Nat} {sw : Bool} {gc : Nat} {I : Nat → Nat → Int32} {J : Nat → Nat → Int64} {p : Int32} : GM d 29 [.ref 4, .int p] (qS sw gc I J) (some (.int (q_b (x_la4 I p)))) (qS sw gc I J) := by
  refine GM_of (by decide) (Nat.le_refl _) (Nat.le_of_ble_eq_true rfl) q_bn ?_
  refine G_st (L := 89) (k := 0) (0, [some (.ref 4), some (.int p)], [], qS sw gc I J) (q_hn _ _ _ _) rfl ?_
  refine G_st (L := 89) (k := 3) (5, [some (.ref 4), some (.int p)], [.int 0, .ref 5], qS sw gc I J) (q_hn _ _ _ _) rfl ?_
  refine G_iald (i := 5) (n := 4) rfl rfl (q_lt (by decide)) (by unfold vp_in; decide) ?_
  refine G_st (L := 89) (k := 1) (8, [some (.ref 4), some (.int p)], [.int (-4), .int (I 5 0)], qS sw gc I J) (q_hn _ _ _ _) rfl ?_
  refine G_icmp_eq 21 rfl rfl (fun h1 => ?_) (fun h1 => ?_)
  · skip
    refine G_st (L := 89) (k := 2) (26, [some (.ref 4), some (.int p)], [.int 1], qS sw gc I J) (q_hn _ _ _ _) rfl ?_
    exact G_iret rfl rfl (by unfold x_la4; rw [decide_eq_true h1]; rfl) rfl
  · skip
    refine G_st (L := 89) (k := 4) (17, [some (.ref 4), some (.int p)], [.int 0, .ref 5, .int p], qS sw gc I J) (q_hn _ _ _ _) rfl ?_
    refine G_iald (i := 5) (n := 4) rfl rfl (q_lt (by decide)) (by unfold vp_in; decide) ?_
    refine G_st (L := 89) (k := 0) (18, [some (.ref 4), some (.int p)], [.int (I 5 0), .int p], qS sw gc I J) (q_hn _ _ _ _) rfl ?_
    refine G_icmp_gt 25 rfl rfl (fun h2 => ?_) (fun h2 => ?_)
    · skip
      refine G_st (L := 89) (k := 1) (26, [some (.ref 4), some (.int p)], [.int 0], qS sw gc I J) (q_hn _ _ _ _) rfl ?_
      exact G_iret rfl rfl (by unfold x_la4; rw [decide_eq_false h1, decide_eq_true h2]; rfl) rfl
    · skip
      refine G_st (L := 89) (k := 2) (26, [some (.ref 4), some (.int p)], [.int 1], qS sw gc I J) (q_hn _ _ _ _) rfl ?_
      exact G_iret rfl rfl (by unfold x_la4; rw [decide_eq_false h1, decide_eq_false h2]; rfl) rfl
theorem x_numberOf9 {d : Nat} {sw : Bool} {gc : Nat} {I : Nat → Nat → Int32} {J : Nat → Nat → Int64} {k : Nat} (hk : k < 4) : GM (d + 1) 27 [.ref 9, .int (nI k)] (qS sw gc I J) (some (.int (I 10 k))) (qS sw gc I J) := by
  have hnl := m_isNumberLaw (d := d) (M := qS sw gc I J) (nI k)
  rw [f_isNumberLaw_in hk] at hnl
  refine GM_of (by decide) (Nat.le_refl _) (Nat.le_of_ble_eq_true rfl) trivial ?_
  refine G_st (L := 89) (k := 0) (0, [some (.ref 9), some (.int (nI k))], [], qS sw gc I J) (q_hn _ _ _ _) rfl ?_
  refine G_st (L := 89) (k := 1) (1, [some (.ref 9), some (.int (nI k))], [.int (nI k)], qS sw gc I J) (q_hn _ _ _ _) rfl ?_
  refine G_callS (as := [.int (nI k)]) (rest := []) rfl rfl rfl (Nat.le_of_ble_eq_true rfl) hnl (Nat.le_refl _) ?_
  refine G_st (L := 89) (k := 0) (4, [some (.ref 9), some (.int (nI k))], [.int 1], qS sw gc I J) (q_hn _ _ _ _) rfl ?_
  refine G_if_eq 16 rfl rfl (fun h9 => absurd h9 (by decide)) (fun _ => ?_)
  refine G_st (L := 89) (k := 3) (12, [some (.ref 9), some (.int (nI k))], [.int (nI k), .ref 10], qS sw gc I J) (q_hn _ _ _ _) rfl ?_
  refine G_iald (i := 10) (n := 4) rfl rfl (q_lt (by decide)) (vp_in_nI (by omega) (by decide)) ?_
  rw [q_clamp (n := k) (by omega)]
  refine G_st (L := 89) (k := 1) (18, [some (.ref 9), some (.int (nI k))], [.int (I 10 k)], qS sw gc I J) (q_hn _ _ _ _) rfl ?_
  exact G_iret rfl rfl rfl rfl
def x_pd9 (I : Nat → Nat → Int32) (g : Int32) : Nat → Nat → Int32
  | 0, _ => 0
  | m + 1, i => if (I 12 i) < g then x_pd9 I g m (i + 1) else I 13 i
theorem x_pd9_loop {d : Nat} {sw : Bool} {gc : Nat} {I : Nat → Nat → Int32} {J : Nat → Nat → Int64} {g : Int32} {c : Nat} (hc : I 9 4 = nI c) (hc4 : c ≤ 4) : ∀ (m i : Nat), i + m = c → G d 28 (2, [some (.ref 9), some (.int g), some (.int (nI i))], [], qS sw gc I J) (some (.int (x_pd9 I g m i))) (qS sw gc I J) := by
  intro m
  induction m with
  | zero =>
    intro i h
    obtain rfl : i = c := by omega
    refine G_st (L := 89) (k := 3) (7, [some (.ref 9), some (.int g), some (.int (nI i))], [.int (I 9 4), .int (nI i)], qS sw gc I J) (q_hn _ _ _ _) rfl ?_
    rw [show I 9 4 = nI i from hc]
    refine G_icmp_ge 38 rfl rfl (fun _ => ?_) (fun h9 => absurd (nI_le (Nat.le_refl _) (by omega)) h9)
    refine G_st (L := 89) (k := 1) (39, [some (.ref 9), some (.int g), some (.int (nI i))], [.int 0], qS sw gc I J) (q_hn _ _ _ _) rfl ?_
    exact G_iret rfl rfl rfl rfl
  | succ m ih =>
    intro i h
    refine G_st (L := 89) (k := 3) (7, [some (.ref 9), some (.int g), some (.int (nI i))], [.int (I 9 4), .int (nI i)], qS sw gc I J) (q_hn _ _ _ _) rfl ?_
    rw [show I 9 4 = nI c from hc]
    refine G_icmp_ge 38 rfl rfl (fun h9 => absurd h9 (nI_ge (by omega) (by omega))) (fun _ => ?_)
    refine G_st (L := 89) (k := 2) (12, [some (.ref 9), some (.int g), some (.int (nI i))], [.int 4, .int (nI i)], qS sw gc I J) (q_hn _ _ _ _) rfl ?_
    refine G_icmp_ge 38 rfl rfl (fun h9 => absurd h9 (nI_ge (b := 4) (by omega) (by decide))) (fun _ => ?_)
    refine G_st (L := 89) (k := 3) (20, [some (.ref 9), some (.int g), some (.int (nI i))], [.int (nI i), .ref 12], qS sw gc I J) (q_hn _ _ _ _) rfl ?_
    refine G_iald (i := 12) (n := 4) rfl rfl (q_lt (by decide)) (vp_in_nI (by omega) (by decide)) ?_
    rw [q_clamp (n := i) (by omega)]
    refine G_st (L := 89) (k := 1) (22, [some (.ref 9), some (.int g), some (.int (nI i))], [.int g, .int (I 12 i)], qS sw gc I J) (q_hn _ _ _ _) rfl ?_
    refine G_icmp_lt 32 rfl rfl (fun h1 => ?_) (fun h1 => ?_)
    · skip
      refine G_st (L := 89) (k := 2) (2, [some (.ref 9), some (.int g), some (.int ((nI i) + 1))], [], qS sw gc I J) (q_hn _ _ _ _) rfl ?_
      rw [show (nI i) + 1 = nI (i + 1) from (q_addP rfl rfl)]
      rw [x_pd9, if_pos h1]
      exact ih (i + 1) (by omega)
    · skip
      refine G_st (L := 89) (k := 3) (30, [some (.ref 9), some (.int g), some (.int (nI i))], [.int (nI i), .ref 13], qS sw gc I J) (q_hn _ _ _ _) rfl ?_
      refine G_iald (i := 13) (n := 4) rfl rfl (q_lt (by decide)) (vp_in_nI (by omega) (by decide)) ?_
      rw [q_clamp (n := i) (by omega)]
      refine G_st (L := 89) (k := 0) (31, [some (.ref 9), some (.int g), some (.int (nI i))], [.int (I 13 i)], qS sw gc I J) (q_hn _ _ _ _) rfl ?_
      exact G_iret rfl rfl (by rw [x_pd9, if_neg h1]) rfl
theorem x_poundageOf9 {d : Nat} {sw : Bool} {gc : Nat} {I : Nat → Nat → Int32} {J : Nat → Nat → Int64} {g : Int32} {c : Nat} (hc : I 9 4 = nI c) (hc4 : c ≤ 4) : GM d 28 [.ref 9, .int g] (qS sw gc I J) (some (.int (x_pd9 I g c 0))) (qS sw gc I J) := by
  refine GM_of (by decide) (Nat.le_refl _) (Nat.le_of_ble_eq_true rfl) trivial ?_
  refine G_st (L := 89) (k := 0) (0, [some (.ref 9), some (.int g), none], [], qS sw gc I J) (q_hn _ _ _ _) rfl ?_
  refine G_st (L := 89) (k := 2) (2, [some (.ref 9), some (.int g), some (.int 0)], [], qS sw gc I J) (q_hn _ _ _ _) rfl ?_
  exact x_pd9_loop hc hc4 c 0 (by omega)
def x_la9 (I : Nat → Nat → Int32) (p : Int32) : Bool := decide (I 10 0 = (-4)) || !decide (I 10 0 < p)
theorem x_letsAsk9 {d : Nat} {sw : Bool} {gc : Nat} {I : Nat → Nat → Int32} {J : Nat → Nat → Int64} {p : Int32} : GM d 29 [.ref 9, .int p] (qS sw gc I J) (some (.int (q_b (x_la9 I p)))) (qS sw gc I J) := by
  refine GM_of (by decide) (Nat.le_refl _) (Nat.le_of_ble_eq_true rfl) q_bn ?_
  refine G_st (L := 89) (k := 0) (0, [some (.ref 9), some (.int p)], [], qS sw gc I J) (q_hn _ _ _ _) rfl ?_
  refine G_st (L := 89) (k := 3) (5, [some (.ref 9), some (.int p)], [.int 0, .ref 10], qS sw gc I J) (q_hn _ _ _ _) rfl ?_
  refine G_iald (i := 10) (n := 4) rfl rfl (q_lt (by decide)) (by unfold vp_in; decide) ?_
  refine G_st (L := 89) (k := 1) (8, [some (.ref 9), some (.int p)], [.int (-4), .int (I 10 0)], qS sw gc I J) (q_hn _ _ _ _) rfl ?_
  refine G_icmp_eq 21 rfl rfl (fun h1 => ?_) (fun h1 => ?_)
  · skip
    refine G_st (L := 89) (k := 2) (26, [some (.ref 9), some (.int p)], [.int 1], qS sw gc I J) (q_hn _ _ _ _) rfl ?_
    exact G_iret rfl rfl (by unfold x_la9; rw [decide_eq_true h1]; rfl) rfl
  · skip
    refine G_st (L := 89) (k := 4) (17, [some (.ref 9), some (.int p)], [.int 0, .ref 10, .int p], qS sw gc I J) (q_hn _ _ _ _) rfl ?_
    refine G_iald (i := 10) (n := 4) rfl rfl (q_lt (by decide)) (by unfold vp_in; decide) ?_
    refine G_st (L := 89) (k := 0) (18, [some (.ref 9), some (.int p)], [.int (I 10 0), .int p], qS sw gc I J) (q_hn _ _ _ _) rfl ?_
    refine G_icmp_gt 25 rfl rfl (fun h2 => ?_) (fun h2 => ?_)
    · skip
      refine G_st (L := 89) (k := 1) (26, [some (.ref 9), some (.int p)], [.int 0], qS sw gc I J) (q_hn _ _ _ _) rfl ?_
      exact G_iret rfl rfl (by unfold x_la9; rw [decide_eq_false h1, decide_eq_true h2]; rfl) rfl
    · skip
      refine G_st (L := 89) (k := 2) (26, [some (.ref 9), some (.int p)], [.int 1], qS sw gc I J) (q_hn _ _ _ _) rfl ?_
      exact G_iret rfl rfl (by unfold x_la9; rw [decide_eq_false h1, decide_eq_false h2]; rfl) rfl
def x_num (sw : Bool) (I : Nat → Nat → Int32) (k : Nat) : Int32 := cond sw (I 10 k) (I 5 k)
def x_pnd (sw : Bool) (I : Nat → Nat → Int32) (g : Int32) (c : Nat) : Int32 := cond sw (x_pd9 I g c 0) (x_pd4 I g c 0)
def x_las (sw : Bool) (I : Nat → Nat → Int32) (p : Int32) : Bool := cond sw (x_la9 I p) (x_la4 I p)
def x_pds (sw : Bool) (I : Nat → Nat → Int32) : Int32 := cond sw (I 9 4) (I 4 4)
def x_tot (sw : Bool) (I : Nat → Nat → Int32) : Int32 := cond sw (I 9 5) (I 4 5)
