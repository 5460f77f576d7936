def x_hw (I : Nat → Nat → Int32) (k : Nat) : Bool := !decide (I (2 * k + 89) 4 = (-4))
theorem x_hasWall {d : Nat} {sw : Bool} {gc : Nat} {I : Nat → Nat → Int32} {J : Nat → Nat → Int64} {k : Nat} (hk : k < gc) (hg : gc ≤ 8) : GM d 11 [.ref (2 * k + 89)] (qS sw gc I J) (some (.int (q_b (x_hw I k)))) (qS sw gc I J) := by
  refine GM_of (by decide) (Nat.le_refl _) (Nat.le_of_ble_eq_true rfl) q_bn ?_
  refine G_st (L := 89) (k := 0) (0, [some (.ref (2 * k + 89))], [], qS sw gc I J) (q_hn _ _ _ _) rfl ?_
  refine G_st (L := 89) (k := 1) (1, [some (.ref (2 * k + 89))], [.ref (2 * k + 89)], qS sw gc I J) (q_hn _ _ _ _) rfl ?_
  refine G_get (ci := 1) (k := 4) (i := 2 * k + 89) rfl rfl (q_shG (by omega)).1 (q_ltG (by omega)).1 ?_
  refine G_st (L := 89) (k := 1) (6, [some (.ref (2 * k + 89))], [.int (-4), .int (I (2 * k + 89) 4)], qS sw gc I J) (q_hn _ _ _ _) rfl ?_
  refine G_icmp_eq 13 rfl rfl (fun h1 => ?_) (fun h1 => ?_)
  · skip
    refine G_st (L := 89) (k := 1) (14, [some (.ref (2 * k + 89))], [.int 0], qS sw gc I J) (q_hn _ _ _ _) rfl ?_
    exact G_iret rfl rfl (by rw [x_hw, decide_eq_true h1]; rfl) rfl
  · skip
    refine G_st (L := 89) (k := 2) (14, [some (.ref (2 * k + 89))], [.int 1], qS sw gc I J) (q_hn _ _ _ _) rfl ?_
    exact G_iret rfl rfl (by rw [x_hw, decide_eq_false h1]; rfl) rfl
theorem x_askFor {d : Nat} {sw : Bool} {gc : Nat} {I : Nat → Nat → Int32} {J : Nat → Nat → Int64} {k : Nat} (hk : k < gc) (hg : gc ≤ 8) {w : Nat} (hw : w < 30) : GM d 12 [.ref (2 * k + 89), .int (nI w)] (qS sw gc I J) (some (.int (I (2 * k + 90) w))) (qS sw gc I J) := by
  refine GM_of (by decide) (Nat.le_refl _) (Nat.le_of_ble_eq_true rfl) trivial ?_
  refine G_st (L := 89) (k := 0) (0, [some (.ref (2 * k + 89)), some (.int (nI w))], [], qS sw gc I J) (q_hn _ _ _ _) rfl ?_
  refine G_st (L := 89) (k := 1) (1, [some (.ref (2 * k + 89)), some (.int (nI w))], [.int (nI w)], qS sw gc I J) (q_hn _ _ _ _) rfl ?_
  refine G_if_lt 10 rfl rfl (fun h9 => absurd h9 (nI_nlt (b := 0) (by omega) (by omega))) (fun _ => ?_)
  refine G_st (L := 89) (k := 2) (7, [some (.ref (2 * k + 89)), some (.int (nI w))], [.int 30, .int (nI w)], qS sw gc I J) (q_hn _ _ _ _) rfl ?_
  refine G_icmp_lt 15 rfl rfl (fun _ => ?_) (fun h9 => absurd (nI_lt (b := 30) (by omega) (by decide)) h9)
  refine G_st (L := 89) (k := 1) (16, [some (.ref (2 * k + 89)), some (.int (nI w))], [.ref (2 * k + 89)], qS sw gc I J) (q_hn _ _ _ _) rfl ?_
  refine G_get (ci := 1) (k := 0) (i := 2 * k + 89) rfl rfl (q_shG (by omega)).1 (q_ltG (by omega)).1 ?_
  rw [show q_av (qS sw gc I J) (2 * k + 89) (q_fty 1 0) 0 = .ref (2 * k + 90) from congrArg va_rf (@q_rfA sw gc _ (by omega))]
  refine G_st (L := 89) (k := 1) (20, [some (.ref (2 * k + 89)), some (.int (nI w))], [.int (nI w), .ref (2 * k + 90)], qS sw gc I J) (q_hn _ _ _ _) rfl ?_
  refine G_iald (i := 2 * k + 90) (n := 30) rfl (q_shG (by omega)).2 (q_ltG (by omega)).2 (vp_in_nI (by omega) (by decide)) ?_
  rw [q_clamp (n := w) (by omega)]
  refine G_st (L := 89) (k := 0) (21, [some (.ref (2 * k + 89)), some (.int (nI w))], [.int (I (2 * k + 90) w)], qS sw gc I J) (q_hn _ _ _ _) rfl ?_
  exact G_iret rfl rfl rfl rfl
theorem x_askForN {d : Nat} {sw : Bool} {gc : Nat} {I : Nat → Nat → Int32} {J : Nat → Nat → Int64} {k : Nat} (hk : k < gc) (hg : gc ≤ 8) {x : Int32} (hx : x < 0 ∨ nI 30 ≤ x) : GM d 12 [.ref (2 * k + 89), .int x] (qS sw gc I J) (some (.int (-4))) (qS sw gc I J) := by
  refine GM_of (by decide) (Nat.le_refl _) (Nat.le_of_ble_eq_true rfl) trivial ?_
  refine G_st (L := 89) (k := 0) (0, [some (.ref (2 * k + 89)), some (.int x)], [], qS sw gc I J) (q_hn _ _ _ _) rfl ?_
  refine G_st (L := 89) (k := 1) (1, [some (.ref (2 * k + 89)), some (.int x)], [.int x], qS sw gc I J) (q_hn _ _ _ _) rfl ?_
  refine G_if_lt 10 rfl rfl (fun h1 => ?_) (fun h1 => ?_)
  · skip
    refine G_st (L := 89) (k := 2) (21, [some (.ref (2 * k + 89)), some (.int x)], [.int (-4)], qS sw gc I J) (q_hn _ _ _ _) rfl ?_
    exact G_iret rfl rfl rfl rfl
  · skip
    refine G_st (L := 89) (k := 2) (7, [some (.ref (2 * k + 89)), some (.int x)], [.int 30, .int x], qS sw gc I J) (q_hn _ _ _ _) rfl ?_
    refine G_icmp_lt 15 rfl rfl (fun h9 => absurd h9 (q_bad30 hx h1)) (fun _ => ?_)
    refine G_st (L := 89) (k := 2) (21, [some (.ref (2 * k + 89)), some (.int x)], [.int (-4)], qS sw gc I J) (q_hn _ _ _ _) rfl ?_
    exact G_iret rfl rfl rfl rfl
theorem x_setAsk {d : Nat} {sw : Bool} {gc : Nat} {I : Nat → Nat → Int32} {J : Nat → Nat → Int64} {k : Nat} (hk : k < gc) (hg : gc ≤ 8) {w : Nat} {p : Int32} (hw : w < 30) : GM d 13 [.ref (2 * k + 89), .int (nI w), .int p] (qS sw gc I J) (none) (qS sw gc (q_u I (2 * k + 90) w p) J) := by
  refine GM_of (by decide) (Nat.le_refl _) (Nat.le_of_ble_eq_true rfl) trivial ?_
  refine G_st (L := 89) (k := 0) (0, [some (.ref (2 * k + 89)), some (.int (nI w)), some (.int p)], [], qS sw gc I J) (q_hn _ _ _ _) rfl ?_
  refine G_st (L := 89) (k := 1) (1, [some (.ref (2 * k + 89)), some (.int (nI w)), some (.int p)], [.int (nI w)], qS sw gc I J) (q_hn _ _ _ _) rfl ?_
  refine G_if_lt 17 rfl rfl (fun h9 => absurd h9 (nI_nlt (b := 0) (by omega) (by omega))) (fun _ => ?_)
  refine G_st (L := 89) (k := 2) (7, [some (.ref (2 * k + 89)), some (.int (nI w)), some (.int p)], [.int 30, .int (nI w)], qS sw gc I J) (q_hn _ _ _ _) rfl ?_
  refine G_icmp_ge 17 rfl rfl (fun h9 => absurd h9 (nI_ge (b := 30) (by omega) (by decide))) (fun _ => ?_)
  refine G_st (L := 89) (k := 1) (11, [some (.ref (2 * k + 89)), some (.int (nI w)), some (.int p)], [.ref (2 * k + 89)], qS sw gc I J) (q_hn _ _ _ _) rfl ?_
  refine G_get (ci := 1) (k := 0) (i := 2 * k + 89) rfl rfl (q_shG (by omega)).1 (q_ltG (by omega)).1 ?_
  rw [show q_av (qS sw gc I J) (2 * k + 89) (q_fty 1 0) 0 = .ref (2 * k + 90) from congrArg va_rf (@q_rfA sw gc _ (by omega))]
  refine G_st (L := 89) (k := 2) (16, [some (.ref (2 * k + 89)), some (.int (nI w)), some (.int p)], [.int p, .int (nI w), .ref (2 * k + 90)], qS sw gc I J) (q_hn _ _ _ _) rfl ?_
  refine G_iast (i := 2 * k + 90) (n := 30) rfl (q_shG (by omega)).2 (q_ltG (by omega)).2 (vp_in_nI (by omega) (by decide)) ?_
  rw [q_clamp (n := w) (by omega)]
  refine G_st (L := 89) (k := 0) (17, [some (.ref (2 * k + 89)), some (.int (nI w)), some (.int p)], [], qS sw gc (q_u I (2 * k + 90) w p) J) (q_hn _ _ _ _) rfl ?_
  exact G_ret rfl rfl rfl rfl
def x_tk (I : Nat → Nat → Int32) (k w : Nat) : Nat → Nat → Int32 := q_u (q_u (q_u I (2 * k + 89) 4 (nI w)) (2 * k + 89) 5 (I (2 * k + 90) w)) (2 * k + 89) 3 (I (2 * k + 89) 3 + 1)
theorem x_take {d : Nat} {sw : Bool} {gc : Nat} {I : Nat → Nat → Int32} {J : Nat → Nat → Int64} {k : Nat} (hk : k < gc) (hg : gc ≤ 8) {w : Nat} (hw : w < 30) : GM (d + 1) 14 [.ref (2 * k + 89), .int (nI w)] (qS sw gc I J) (none) (qS sw gc (x_tk I k w) J) := by
  refine GM_of (by decide) (Nat.le_refl _) (Nat.le_of_ble_eq_true rfl) trivial ?_
  refine G_st (L := 89) (k := 0) (0, [some (.ref (2 * k + 89)), some (.int (nI w))], [], qS sw gc I J) (q_hn _ _ _ _) rfl ?_
  refine G_st (L := 89) (k := 2) (2, [some (.ref (2 * k + 89)), some (.int (nI w))], [.int (nI w), .ref (2 * k + 89)], qS sw gc I J) (q_hn _ _ _ _) rfl ?_
  refine G_put (ci := 1) (k := 4) (i := 2 * k + 89) (M1 := qS sw gc (q_u I (2 * k + 89) 4 (nI w)) J) rfl rfl (q_shG (by omega)).1 (q_ltG (by omega)).1 rfl rfl rfl ?_
  refine G_st (L := 89) (k := 3) (8, [some (.ref (2 * k + 89)), some (.int (nI w))], [.int (nI w), .ref (2 * k + 89), .ref (2 * k + 89)], qS sw gc (q_u I (2 * k + 89) 4 (nI w)) J) (q_hn _ _ _ _) rfl ?_
  have ha : GM d 12 [.ref (2 * k + 89), .int (nI w)] (qS sw gc (q_u I (2 * k + 89) 4 (nI w)) J) (some (.int (I (2 * k + 90) w))) (qS sw gc (q_u I (2 * k + 89) 4 (nI w)) J) := (show (q_u I (2 * k + 89) 4 (nI w)) (2 * k + 90) w = I (2 * k + 90) w from q_un _ _ (by omega)) ▸ x_askFor (by omega) hg (by omega)
  refine G_callV (b := 2 * k + 89) (ci := 1) (as := [.int (nI w)]) (rest := [.ref (2 * k + 89)]) rfl rfl (q_shG (by omega)).1 (q_ltG (by omega)).1 (by decide) rfl rfl (Nat.le_of_ble_eq_true rfl) ha (Nat.le_refl _) ?_
  refine G_st (L := 89) (k := 0) (11, [some (.ref (2 * k + 89)), some (.int (nI w))], [.int (I (2 * k + 90) w), .ref (2 * k + 89)], qS sw gc (q_u I (2 * k + 89) 4 (nI w)) J) (q_hn _ _ _ _) rfl ?_
  refine G_put (ci := 1) (k := 5) (i := 2 * k + 89) (M1 := qS sw gc (q_u (q_u I (2 * k + 89) 4 (nI w)) (2 * k + 89) 5 (I (2 * k + 90) w)) J) rfl rfl (q_shG (by omega)).1 (q_ltG (by omega)).1 rfl rfl rfl ?_
  refine G_st (L := 89) (k := 2) (16, [some (.ref (2 * k + 89)), some (.int (nI w))], [.ref (2 * k + 89), .ref (2 * k + 89)], qS sw gc (q_u (q_u I (2 * k + 89) 4 (nI w)) (2 * k + 89) 5 (I (2 * k + 90) w)) J) (q_hn _ _ _ _) rfl ?_
  refine G_get (ci := 1) (k := 3) (i := 2 * k + 89) rfl rfl (q_shG (by omega)).1 (q_ltG (by omega)).1 ?_
  rw [show q_av (qS sw gc (q_u (q_u I (2 * k + 89) 4 (nI w)) (2 * k + 89) 5 (I (2 * k + 90) w)) J) (2 * k + 89) (q_fty 1 3) 3 = .int (I (2 * k + 89) 3) from congrArg Value.int ((q_un _ _ (by omega)).trans (q_un _ _ (by omega)))]
  refine G_st (L := 89) (k := 2) (21, [some (.ref (2 * k + 89)), some (.int (nI w))], [.int ((I (2 * k + 89) 3) + 1), .ref (2 * k + 89)], qS sw gc (q_u (q_u I (2 * k + 89) 4 (nI w)) (2 * k + 89) 5 (I (2 * k + 90) w)) J) (q_hn _ _ _ _) rfl ?_
  refine G_put (ci := 1) (k := 3) (i := 2 * k + 89) (M1 := qS sw gc (q_u (q_u (q_u I (2 * k + 89) 4 (nI w)) (2 * k + 89) 5 (I (2 * k + 90) w)) (2 * k + 89) 3 ((I (2 * k + 89) 3) + 1)) J) rfl rfl (q_shG (by omega)).1 (q_ltG (by omega)).1 rfl rfl rfl ?_
  refine G_st (L := 89) (k := 0) (24, [some (.ref (2 * k + 89)), some (.int (nI w))], [], qS sw gc (q_u (q_u (q_u I (2 * k + 89) 4 (nI w)) (2 * k + 89) 5 (I (2 * k + 90) w)) (2 * k + 89) 3 ((I (2 * k + 89) 3) + 1)) J) (q_hn _ _ _ _) rfl ?_
  exact G_ret rfl rfl rfl rfl
def x_fd (a b : Int64) : Int64 := if 0 ≤ lg_cmp (a ^^^ b) 0 then a / b else if lg_cmp (a / b * b) a = 0 then a / b else a / b - 1
theorem x_floorDiv {d : Nat} {M : qM} {a b : Int64} (hb : ¬ b = 0) : GM d 146 [.long a, .long b] (M) (some (.long (x_fd a b))) (M) := by
  refine GM_of (by decide) (Nat.le_refl _) (Nat.le_of_ble_eq_true rfl) trivial ?_
  refine G_st (L := 0) (k := 0) (0, [some (.long a), none, some (.long b), none, none, none], [], M) (Nat.zero_le _) rfl ?_
  refine G_st (L := 0) (k := 2) (2, [some (.long a), none, some (.long b), none, none, none], [.long b, .long a], M) (Nat.zero_le _) rfl ?_
  refine G_ldiv rfl hb ?_
  refine G_st (L := 0) (k := 6) (10, [some (.long a), none, some (.long b), none, some (.long (a / b)), none], [.int (lg_cmp (a ^^^ b) 0)], M) (Nat.zero_le _) rfl ?_
  refine G_if_ge 27 rfl rfl (fun h1 => ?_) (fun h1 => ?_)
  · skip
    refine G_st (L := 0) (k := 1) (29, [some (.long a), none, some (.long b), none, some (.long (a / b)), none], [.long (a / b)], M) (Nat.zero_le _) rfl ?_
    exact G_lret rfl rfl (by rw [x_fd, if_pos h1]) rfl
  · skip
    refine G_st (L := 0) (k := 5) (19, [some (.long a), none, some (.long b), none, some (.long (a / b)), none], [.int (lg_cmp ((a / b) * b) a)], M) (Nat.zero_le _) rfl ?_
    refine G_if_eq 27 rfl rfl (fun h2 => ?_) (fun h2 => ?_)
    · skip
      refine G_st (L := 0) (k := 1) (29, [some (.long a), none, some (.long b), none, some (.long (a / b)), none], [.long (a / b)], M) (Nat.zero_le _) rfl ?_
      exact G_lret rfl rfl (by rw [x_fd, if_neg h1, if_pos h2]) rfl
    · skip
      refine G_st (L := 0) (k := 3) (26, [some (.long a), none, some (.long b), none, some (.long (a / b)), none], [.long ((a / b) - 1)], M) (Nat.zero_le _) rfl ?_
      exact G_lret rfl rfl (by rw [x_fd, if_neg h1, if_neg h2]) rfl
theorem x_shareOf {d : Nat} {sw : Bool} {gc : Nat} {I : Nat → Nat → Int32} {J : Nat → Nat → Int64} {k : Nat} (hk : k < gc) (hg : gc ≤ 8) {n : Int32} (hm1 : ¬ I (2 * k + 89) 1 < 1) (hm : ¬ Int32.toInt64 (I (2 * k + 89) 1) = 0) : GM (d + 1) 16 [.ref (2 * k + 89), .int n] (qS sw gc I J) (some (.int (Int64.toInt32 (x_fd (Int32.toInt64 (I (2 * k + 89) 2) * Int32.toInt64 n) (Int32.toInt64 (I (2 * k + 89) 1)))))) (qS sw gc I J) := by
  refine GM_of (by decide) (Nat.le_refl _) (Nat.le_of_ble_eq_true rfl) trivial ?_
  refine G_st (L := 89) (k := 0) (0, [some (.ref (2 * k + 89)), some (.int n)], [], qS sw gc I J) (q_hn _ _ _ _) rfl ?_
  refine G_st (L := 89) (k := 1) (1, [some (.ref (2 * k + 89)), some (.int n)], [.ref (2 * k + 89)], qS sw gc I J) (q_hn _ _ _ _) rfl ?_
  refine G_get (ci := 1) (k := 1) (i := 2 * k + 89) rfl rfl (q_shG (by omega)).1 (q_ltG (by omega)).1 ?_
  refine G_st (L := 89) (k := 1) (5, [some (.ref (2 * k + 89)), some (.int n)], [.int 1, .int (I (2 * k + 89) 1)], qS sw gc I J) (q_hn _ _ _ _) rfl ?_
  refine G_icmp_ge 12 rfl rfl (fun _ => ?_) (fun h9 => absurd (Int32.not_lt.mp hm1) h9)
  refine G_st (L := 89) (k := 1) (13, [some (.ref (2 * k + 89)), some (.int n)], [.ref (2 * k + 89)], qS sw gc I J) (q_hn _ _ _ _) rfl ?_
  refine G_get (ci := 1) (k := 2) (i := 2 * k + 89) rfl rfl (q_shG (by omega)).1 (q_ltG (by omega)).1 ?_
  refine G_st (L := 89) (k := 5) (21, [some (.ref (2 * k + 89)), some (.int n)], [.ref (2 * k + 89), .long ((Int32.toInt64 (I (2 * k + 89) 2)) * (Int32.toInt64 n))], qS sw gc I J) (q_hn _ _ _ _) rfl ?_
  refine G_get (ci := 1) (k := 1) (i := 2 * k + 89) rfl rfl (q_shG (by omega)).1 (q_ltG (by omega)).1 ?_
  refine G_st (L := 89) (k := 1) (25, [some (.ref (2 * k + 89)), some (.int n)], [.long (Int32.toInt64 (I (2 * k + 89) 1)), .long ((Int32.toInt64 (I (2 * k + 89) 2)) * (Int32.toInt64 n))], qS sw gc I J) (q_hn _ _ _ _) rfl ?_
  refine G_callS (as := [.long ((Int32.toInt64 (I (2 * k + 89) 2)) * (Int32.toInt64 n)), .long (Int32.toInt64 (I (2 * k + 89) 1))]) (rest := []) rfl rfl rfl (Nat.le_of_ble_eq_true rfl) (x_floorDiv hm) (Nat.le_refl _) ?_
  refine G_st (L := 89) (k := 1) (29, [some (.ref (2 * k + 89)), some (.int n)], [.int (Int64.toInt32 (x_fd ((Int32.toInt64 (I (2 * k + 89) 2)) * (Int32.toInt64 n)) (Int32.toInt64 (I (2 * k + 89) 1))))], qS sw gc I J) (q_hn _ _ _ _) rfl ?_
  exact G_iret rfl rfl rfl rfl
def q_fil (I : Nat → Nat → Int32) (r i n : Nat) (v : Int32) : Nat → Nat → Int32 := fun a b => if a = r ∧ i ≤ b ∧ b < n then v else I a b
theorem q_fil_step (I : Nat → Nat → Int32) {r i n : Nat} (v : Int32) (h : i < n) : q_fil (q_u I r i v) r (i + 1) n v = q_fil I r i n v := by
  funext a b
  unfold q_fil q_u
  by_cases h1 : a = r ∧ b = i
  · rw [if_pos h1, if_pos (show a = r ∧ i ≤ b ∧ b < n by omega)]; split <;> rfl
  · rw [if_neg h1]
    by_cases h2 : a = r ∧ i + 1 ≤ b ∧ b < n
    · rw [if_pos h2, if_pos (by omega)]
    · rw [if_neg h2, if_neg (by omega)]
theorem q_fil_end (I : Nat → Nat → Int32) (r n : Nat) (v : Int32) : q_fil I r n n v = I := by
  funext a b
  unfold q_fil
  rw [if_neg (by omega)]
theorem x_fillA_loop {d : Nat} {sw : Bool} {gc : Nat} {J : Nat → Nat → Int64} {v : Int32} {k : Nat} (hk : k < gc) (hg : gc ≤ 8) : ∀ (n i : Nat) (I : Nat → Nat → Int32), i + n = 30 → G d 159 (5, [some (.ref (2 * k + 90)), some (.int v), some (.int (nI i)), some (.int 30)], [], qS sw gc I J) none (qS sw gc (q_fil I (2 * k + 90) i 30 v) J) := by
  intro n
  induction n with
  | zero =>
    intro i I h
    obtain rfl : i = 30 := by omega
    rw [q_fil_end]
    refine G_st (L := 89) (k := 2) (7, [some (.ref (2 * k + 90)), some (.int v), some (.int 30), some (.int 30)], [.int 30, .int 30], qS sw gc I J) (q_hn _ _ _ _) rfl ?_
    refine G_icmp_ge 20 rfl rfl (fun _ => ?_) (fun h9 => absurd h9 (by decide))
    exact G_ret rfl rfl rfl rfl
  | succ n ih =>
    intro i I h
    rw [← q_fil_step I v (by omega)]
    refine G_st (L := 89) (k := 2) (7, [some (.ref (2 * k + 90)), some (.int v), some (.int (nI i)), some (.int 30)], [.int 30, .int (nI i)], qS sw gc I J) (q_hn _ _ _ _) rfl ?_
    refine G_icmp_ge 20 rfl rfl (fun h9 => absurd h9 (nI_ge (b := 30) (by omega) (by decide))) (fun _ => ?_)
    refine G_st (L := 89) (k := 3) (13, [some (.ref (2 * k + 90)), some (.int v), some (.int (nI i)), some (.int 30)], [.int v, .int (nI i), .ref (2 * k + 90)], qS sw gc I J) (q_hn _ _ _ _) rfl ?_
    refine G_iast (i := 2 * k + 90) (n := 30) rfl (q_shG (by omega)).2 (q_ltG (by omega)).2 (vp_in_nI (by omega) (by decide)) ?_
    rw [q_clamp (n := i) (by omega)]
    refine G_st (L := 89) (k := 2) (5, [some (.ref (2 * k + 90)), some (.int v), some (.int ((nI i) + 1)), some (.int 30)], [], qS sw gc (q_u I (2 * k + 90) i v) J) (q_hn _ _ _ _) rfl ?_
    rw [show (nI i) + 1 = nI (i + 1) from (q_addP rfl rfl)]
    exact ih (i + 1) _ (by omega)
theorem x_fillA {d : Nat} {sw : Bool} {gc : Nat} {I : Nat → Nat → Int32} {J : Nat → Nat → Int64} {v : Int32} {k : Nat} (hk : k < gc) (hg : gc ≤ 8) : GM d 159 [.ref (2 * k + 90), .int v] (qS sw gc I J) (none) (qS sw gc (q_fil I (2 * k + 90) 0 30 v) J) := by
  refine GM_of (by decide) (Nat.le_refl _) (Nat.le_of_ble_eq_true rfl) trivial ?_
  refine G_st (L := 89) (k := 0) (0, [some (.ref (2 * k + 90)), some (.int v), none, none], [], qS sw gc I J) (q_hn _ _ _ _) rfl ?_
  refine G_st (L := 89) (k := 3) (3, [some (.ref (2 * k + 90)), some (.int v), some (.int 0), none], [.ref (2 * k + 90)], qS sw gc I J) (q_hn _ _ _ _) rfl ?_
  refine G_alen (t := 0) (n := 30) (x := 30) rfl (q_shG (by omega)).2 (by decide) (q_ltG (by omega)).2 rfl ?_
  refine G_st (L := 89) (k := 1) (5, [some (.ref (2 * k + 90)), some (.int v), some (.int 0), some (.int 30)], [], qS sw gc I J) (q_hn _ _ _ _) rfl ?_
  exact x_fillA_loop hk hg 30 0 I rfl
def x_em (I : Nat → Nat → Int32) (k : Nat) : Nat → Nat → Int32 := q_u (q_u (q_u (q_fil I (2 * k + 90) 0 30 (-4)) (2 * k + 89) 4 (-4)) (2 * k + 89) 5 0) (2 * k + 89) 7 0
theorem x_endMonth {d : Nat} {sw : Bool} {gc : Nat} {I : Nat → Nat → Int32} {J : Nat → Nat → Int64} {k : Nat} (hk : k < gc) (hg : gc ≤ 8) : GM (d + 1) 15 [.ref (2 * k + 89)] (qS sw gc I J) (none) (qS sw gc (x_em I k) J) := by
  refine GM_of (by decide) (Nat.le_refl _) (Nat.le_of_ble_eq_true rfl) trivial ?_
  refine G_st (L := 89) (k := 0) (0, [some (.ref (2 * k + 89))], [], qS sw gc I J) (q_hn _ _ _ _) rfl ?_
  refine G_st (L := 89) (k := 1) (1, [some (.ref (2 * k + 89))], [.ref (2 * k + 89)], qS sw gc I J) (q_hn _ _ _ _) rfl ?_
  refine G_get (ci := 1) (k := 0) (i := 2 * k + 89) rfl rfl (q_shG (by omega)).1 (q_ltG (by omega)).1 ?_
  rw [show q_av (qS sw gc I J) (2 * k + 89) (q_fty 1 0) 0 = .ref (2 * k + 90) from congrArg va_rf (@q_rfA sw gc _ (by omega))]
  refine G_st (L := 89) (k := 1) (6, [some (.ref (2 * k + 89))], [.int (-4), .ref (2 * k + 90)], qS sw gc I J) (q_hn _ _ _ _) rfl ?_
  refine G_callS (as := [.ref (2 * k + 90), .int (-4)]) (rest := []) rfl rfl rfl (Nat.le_of_ble_eq_true rfl) (x_fillA hk hg) (Nat.le_refl _) ?_
  refine G_st (L := 89) (k := 2) (12, [some (.ref (2 * k + 89))], [.int (-4), .ref (2 * k + 89)], qS sw gc (q_fil I (2 * k + 90) 0 30 (-4)) J) (q_hn _ _ _ _) rfl ?_
  refine G_put (ci := 1) (k := 4) (i := 2 * k + 89) (M1 := qS sw gc (q_u (q_fil I (2 * k + 90) 0 30 (-4)) (2 * k + 89) 4 (-4)) J) rfl rfl (q_shG (by omega)).1 (q_ltG (by omega)).1 rfl rfl rfl ?_
  refine G_st (L := 89) (k := 2) (17, [some (.ref (2 * k + 89))], [.int 0, .ref (2 * k + 89)], qS sw gc (q_u (q_fil I (2 * k + 90) 0 30 (-4)) (2 * k + 89) 4 (-4)) J) (q_hn _ _ _ _) rfl ?_
  refine G_put (ci := 1) (k := 5) (i := 2 * k + 89) (M1 := qS sw gc (q_u (q_u (q_fil I (2 * k + 90) 0 30 (-4)) (2 * k + 89) 4 (-4)) (2 * k + 89) 5 0) J) rfl rfl (q_shG (by omega)).1 (q_ltG (by omega)).1 rfl rfl rfl ?_
  refine G_st (L := 89) (k := 2) (22, [some (.ref (2 * k + 89))], [.int 0, .ref (2 * k + 89)], qS sw gc (q_u (q_u (q_fil I (2 * k + 90) 0 30 (-4)) (2 * k + 89) 4 (-4)) (2 * k + 89) 5 0) J) (q_hn _ _ _ _) rfl ?_
  refine G_put (ci := 1) (k := 7) (i := 2 * k + 89) (M1 := qS sw gc (q_u (q_u (q_u (q_fil I (2 * k + 90) 0 30 (-4)) (2 * k + 89) 4 (-4)) (2 * k + 89) 5 0) (2 * k + 89) 7 0) J) rfl rfl (q_shG (by omega)).1 (q_ltG (by omega)).1 rfl rfl rfl ?_
  refine G_st (L := 89) (k := 0) (25, [some (.ref (2 * k + 89))], [], qS sw gc (q_u (q_u (q_u (q_fil I (2 * k + 90) 0 30 (-4)) (2 * k + 89) 4 (-4)) (2 * k + 89) 5 0) (2 * k + 89) 7 0) J) (q_hn _ _ _ _) rfl ?_
  exact G_ret rfl rfl rfl rfl
def x_tp (I : Nat → Nat → Int32) (k : Nat) (p t : Int32) : Nat → Nat → Int32 := if (I (2 * k + 89) 7) = 0 then q_u (q_u (q_u (q_u I (2 * k + 89) 2 ((I (2 * k + 89) 2) + p)) (2 * k + 89) 2 (((I (2 * k + 89) 2) + p) - (t * (I (2 * k + 89) 1)))) (2 * k + 89) 7 1) (2 * k + 89) 6 ((I (2 * k + 89) 6) + 1) else q_u (q_u I (2 * k + 89) 2 ((I (2 * k + 89) 2) + p)) (2 * k + 89) 6 ((I (2 * k + 89) 6) + 1)
theorem x_takePay {d : Nat} {sw : Bool} {gc : Nat} {I : Nat → Nat → Int32} {J : Nat → Nat → Int64} {k : Nat} (hk : k < gc) (hg : gc ≤ 8) {p t : Int32} : GM d 17 [.ref (2 * k + 89), .int p, .int t] (qS sw gc I J) (none) (qS sw gc (x_tp I k p t) J) := by
  refine GM_of (by decide) (Nat.le_refl _) (Nat.le_of_ble_eq_true rfl) trivial ?_
  refine G_st (L := 89) (k := 0) (0, [some (.ref (2 * k + 89)), some (.int p), some (.int t)], [], qS sw gc I J) (q_hn _ _ _ _) rfl ?_
  refine G_st (L := 89) (k := 2) (2, [some (.ref (2 * k + 89)), some (.int p), some (.int t)], [.ref (2 * k + 89), .ref (2 * k + 89)], qS sw gc I J) (q_hn _ _ _ _) rfl ?_
  refine G_get (ci := 1) (k := 2) (i := 2 * k + 89) rfl rfl (q_shG (by omega)).1 (q_ltG (by omega)).1 ?_
  refine G_st (L := 89) (k := 2) (7, [some (.ref (2 * k + 89)), some (.int p), some (.int t)], [.int ((I (2 * k + 89) 2) + p), .ref (2 * k + 89)], qS sw gc I J) (q_hn _ _ _ _) rfl ?_
  refine G_put (ci := 1) (k := 2) (i := 2 * k + 89) (M1 := qS sw gc (q_u I (2 * k + 89) 2 ((I (2 * k + 89) 2) + p)) J) rfl rfl (q_shG (by omega)).1 (q_ltG (by omega)).1 rfl rfl rfl ?_
  refine G_st (L := 89) (k := 1) (11, [some (.ref (2 * k + 89)), some (.int p), some (.int t)], [.ref (2 * k + 89)], qS sw gc (q_u I (2 * k + 89) 2 ((I (2 * k + 89) 2) + p)) J) (q_hn _ _ _ _) rfl ?_
  refine G_get (ci := 1) (k := 7) (i := 2 * k + 89) rfl rfl (q_shG (by omega)).1 (q_ltG (by omega)).1 ?_
  rw [show q_av (qS sw gc (q_u I (2 * k + 89) 2 ((I (2 * k + 89) 2) + p)) J) (2 * k + 89) (q_fty 1 7) 7 = .int (I (2 * k + 89) 7) from congrArg Value.int (q_un _ _ (by omega))]
  refine G_st (L := 89) (k := 0) (14, [some (.ref (2 * k + 89)), some (.int p), some (.int t)], [.int (I (2 * k + 89) 7)], qS sw gc (q_u I (2 * k + 89) 2 ((I (2 * k + 89) 2) + p)) J) (q_hn _ _ _ _) rfl ?_
  refine G_if_ne 37 rfl rfl (fun h1 => ?_) (fun h1 => ?_)
  · skip
    refine G_st (L := 89) (k := 2) (39, [some (.ref (2 * k + 89)), some (.int p), some (.int t)], [.ref (2 * k + 89), .ref (2 * k + 89)], qS sw gc (q_u I (2 * k + 89) 2 ((I (2 * k + 89) 2) + p)) J) (q_hn _ _ _ _) rfl ?_
    refine G_get (ci := 1) (k := 6) (i := 2 * k + 89) rfl rfl (q_shG (by omega)).1 (q_ltG (by omega)).1 ?_
    rw [show q_av (qS sw gc (q_u I (2 * k + 89) 2 ((I (2 * k + 89) 2) + p)) J) (2 * k + 89) (q_fty 1 6) 6 = .int (I (2 * k + 89) 6) from congrArg Value.int (q_un _ _ (by omega))]
    refine G_st (L := 89) (k := 2) (44, [some (.ref (2 * k + 89)), some (.int p), some (.int t)], [.int ((I (2 * k + 89) 6) + 1), .ref (2 * k + 89)], qS sw gc (q_u I (2 * k + 89) 2 ((I (2 * k + 89) 2) + p)) J) (q_hn _ _ _ _) rfl ?_
    refine G_put (ci := 1) (k := 6) (i := 2 * k + 89) (M1 := qS sw gc (q_u (q_u I (2 * k + 89) 2 ((I (2 * k + 89) 2) + p)) (2 * k + 89) 6 ((I (2 * k + 89) 6) + 1)) J) rfl rfl (q_shG (by omega)).1 (q_ltG (by omega)).1 rfl rfl rfl ?_
    refine G_st (L := 89) (k := 0) (47, [some (.ref (2 * k + 89)), some (.int p), some (.int t)], [], qS sw gc (q_u (q_u I (2 * k + 89) 2 ((I (2 * k + 89) 2) + p)) (2 * k + 89) 6 ((I (2 * k + 89) 6) + 1)) J) (q_hn _ _ _ _) rfl ?_
    exact G_ret rfl rfl rfl (by rw [x_tp, if_neg h1])
  · skip
    refine G_st (L := 89) (k := 2) (19, [some (.ref (2 * k + 89)), some (.int p), some (.int t)], [.ref (2 * k + 89), .ref (2 * k + 89)], qS sw gc (q_u I (2 * k + 89) 2 ((I (2 * k + 89) 2) + p)) J) (q_hn _ _ _ _) rfl ?_
    refine G_get (ci := 1) (k := 2) (i := 2 * k + 89) rfl rfl (q_shG (by omega)).1 (q_ltG (by omega)).1 ?_
    rw [show q_av (qS sw gc (q_u I (2 * k + 89) 2 ((I (2 * k + 89) 2) + p)) J) (2 * k + 89) (q_fty 1 2) 2 = .int ((I (2 * k + 89) 2) + p) from congrArg Value.int (q_us _ _ _ _)]
    refine G_st (L := 89) (k := 2) (24, [some (.ref (2 * k + 89)), some (.int p), some (.int t)], [.ref (2 * k + 89), .int t, .int ((I (2 * k + 89) 2) + p), .ref (2 * k + 89)], qS sw gc (q_u I (2 * k + 89) 2 ((I (2 * k + 89) 2) + p)) J) (q_hn _ _ _ _) rfl ?_
    refine G_get (ci := 1) (k := 1) (i := 2 * k + 89) rfl rfl (q_shG (by omega)).1 (q_ltG (by omega)).1 ?_
    rw [show q_av (qS sw gc (q_u I (2 * k + 89) 2 ((I (2 * k + 89) 2) + p)) J) (2 * k + 89) (q_fty 1 1) 1 = .int (I (2 * k + 89) 1) from congrArg Value.int (q_un _ _ (by omega))]
    refine G_st (L := 89) (k := 2) (29, [some (.ref (2 * k + 89)), some (.int p), some (.int t)], [.int (((I (2 * k + 89) 2) + p) - (t * (I (2 * k + 89) 1))), .ref (2 * k + 89)], qS sw gc (q_u I (2 * k + 89) 2 ((I (2 * k + 89) 2) + p)) J) (q_hn _ _ _ _) rfl ?_
    refine G_put (ci := 1) (k := 2) (i := 2 * k + 89) (M1 := qS sw gc (q_u (q_u I (2 * k + 89) 2 ((I (2 * k + 89) 2) + p)) (2 * k + 89) 2 (((I (2 * k + 89) 2) + p) - (t * (I (2 * k + 89) 1)))) J) rfl rfl (q_shG (by omega)).1 (q_ltG (by omega)).1 rfl rfl rfl ?_
    refine G_st (L := 89) (k := 2) (34, [some (.ref (2 * k + 89)), some (.int p), some (.int t)], [.int 1, .ref (2 * k + 89)], qS sw gc (q_u (q_u I (2 * k + 89) 2 ((I (2 * k + 89) 2) + p)) (2 * k + 89) 2 (((I (2 * k + 89) 2) + p) - (t * (I (2 * k + 89) 1)))) J) (q_hn _ _ _ _) rfl ?_
    refine G_put (ci := 1) (k := 7) (i := 2 * k + 89) (M1 := qS sw gc (q_u (q_u (q_u I (2 * k + 89) 2 ((I (2 * k + 89) 2) + p)) (2 * k + 89) 2 (((I (2 * k + 89) 2) + p) - (t * (I (2 * k + 89) 1)))) (2 * k + 89) 7 1) J) rfl rfl (q_shG (by omega)).1 (q_ltG (by omega)).1 rfl rfl rfl ?_
    refine G_st (L := 89) (k := 2) (39, [some (.ref (2 * k + 89)), some (.int p), some (.int t)], [.ref (2 * k + 89), .ref (2 * k + 89)], qS sw gc (q_u (q_u (q_u I (2 * k + 89) 2 ((I (2 * k + 89) 2) + p)) (2 * k + 89) 2 (((I (2 * k + 89) 2) + p) - (t * (I (2 * k + 89) 1)))) (2 * k + 89) 7 1) J) (q_hn _ _ _ _) rfl ?_
    refine G_get (ci := 1) (k := 6) (i := 2 * k + 89) rfl rfl (q_shG (by omega)).1 (q_ltG (by omega)).1 ?_
    rw [show q_av (qS sw gc (q_u (q_u (q_u I (2 * k + 89) 2 ((I (2 * k + 89) 2) + p)) (2 * k + 89) 2 (((I (2 * k + 89) 2) + p) - (t * (I (2 * k + 89) 1)))) (2 * k + 89) 7 1) J) (2 * k + 89) (q_fty 1 6) 6 = .int (I (2 * k + 89) 6) from congrArg Value.int ((q_un _ _ (by omega)).trans ((q_un _ _ (by omega)).trans (q_un _ _ (by omega))))]
    refine G_st (L := 89) (k := 2) (44, [some (.ref (2 * k + 89)), some (.int p), some (.int t)], [.int ((I (2 * k + 89) 6) + 1), .ref (2 * k + 89)], qS sw gc (q_u (q_u (q_u I (2 * k + 89) 2 ((I (2 * k + 89) 2) + p)) (2 * k + 89) 2 (((I (2 * k + 89) 2) + p) - (t * (I (2 * k + 89) 1)))) (2 * k + 89) 7 1) J) (q_hn _ _ _ _) rfl ?_
    refine G_put (ci := 1) (k := 6) (i := 2 * k + 89) (M1 := qS sw gc (q_u (q_u (q_u (q_u I (2 * k + 89) 2 ((I (2 * k + 89) 2) + p)) (2 * k + 89) 2 (((I (2 * k + 89) 2) + p) - (t * (I (2 * k + 89) 1)))) (2 * k + 89) 7 1) (2 * k + 89) 6 ((I (2 * k + 89) 6) + 1)) J) rfl rfl (q_shG (by omega)).1 (q_ltG (by omega)).1 rfl rfl rfl ?_
    refine G_st (L := 89) (k := 0) (47, [some (.ref (2 * k + 89)), some (.int p), some (.int t)], [], qS sw gc (q_u (q_u (q_u (q_u I (2 * k + 89) 2 ((I (2 * k + 89) 2) + p)) (2 * k + 89) 2 (((I (2 * k + 89) 2) + p) - (t * (I (2 * k + 89) 1)))) (2 * k + 89) 7 1) (2 * k + 89) 6 ((I (2 * k + 89) 6) + 1)) J) (q_hn _ _ _ _) rfl ?_
    exact G_ret rfl rfl rfl (by rw [x_tp, if_pos h1])
