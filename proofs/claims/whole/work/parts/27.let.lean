def x_mt (sw : Bool) (I : Nat → Nat → Int32) (w k : Nat) : Bool := !(x_hw I k) && !decide (I (2 * k + 90) w = (-4)) && x_las sw I (I (2 * k + 90) w)
def x_bt (I : Nat → Nat → Int32) (w k j : Nat) : Bool := decide (I (2 * k + 90) w < I (2 * j + 90) w) || (decide (I (2 * k + 90) w = I (2 * j + 90) w) && decide (I (2 * k + 89) 3 < I (2 * j + 89) 3))
def q_bto (f : Nat → Bool) : Option Nat → Bool
  | none => true
  | some j => f j
def q_bs (ok : Nat → Bool) (bt : Nat → Nat → Bool) : Nat → Nat → Option Nat → Option Nat
  | 0, _, b => b
  | n + 1, i, b => q_bs ok bt n (i + 1) (cond (ok i && q_bto (bt i) b) (some i) b)
def x_oi : Option Nat → Int32
  | none => -4
  | some k => nI k
theorem x_mayTake_false {d : Nat} {gc : Nat} {I : Nat → Nat → Int32} {J : Nat → Nat → Int64} {k w : Nat} (hk : k < gc) (hg : gc ≤ 8) (hw : w < 30) : GM (d + 1) 94 [.ref 0, .ref (2 * k + 89), .int (nI w)] (qS false gc I J) (some (.int (q_b (x_mt false I w k)))) (qS false gc I J) := by
  refine GM_of (by decide) (Nat.le_refl _) (Nat.le_of_ble_eq_true rfl) q_bn ?_
  refine G_st (L := 89) (k := 0) (0, [some (.ref 0), some (.ref (2 * k + 89)), some (.int (nI w))], [], qS false gc I J) (q_hn _ _ _ _) rfl ?_
  refine G_st (L := 89) (k := 3) (5, [some (.ref 0), some (.ref (2 * k + 89)), some (.int (nI w))], [.ref (2 * k + 89)], qS false gc I J) (q_hn _ _ _ _) rfl ?_
  refine G_callV (b := 2 * k + 89) (ci := 1) (as := []) (rest := []) rfl rfl (q_shG (by omega)).1 (q_ltG (by omega)).1 (by decide) rfl rfl (Nat.le_of_ble_eq_true rfl) (x_hasWall hk hg) x_out_n ?_
  refine G_st (L := 89) (k := 0) (8, [some (.ref 0), some (.ref (2 * k + 89)), some (.int (nI w))], [.int (q_b (x_hw I k))], qS false gc I J) (q_hn _ _ _ _) rfl ?_
  refine G_if_ne 40 rfl rfl (fun h1 => ?_) (fun h1 => ?_)
  · skip
    refine G_st (L := 89) (k := 1) (41, [some (.ref 0), some (.ref (2 * k + 89)), some (.int (nI w))], [.int 0], qS false gc I J) (q_hn _ _ _ _) rfl ?_
    exact G_iret rfl rfl (by unfold x_mt; rw [q_b1 h1]; rfl) rfl
  · skip
    refine G_st (L := 89) (k := 2) (13, [some (.ref 0), some (.ref (2 * k + 89)), some (.int (nI w))], [.int (nI w), .ref (2 * k + 89)], qS false gc I J) (q_hn _ _ _ _) rfl ?_
    refine G_callV (b := 2 * k + 89) (ci := 1) (as := [.int (nI w)]) (rest := []) rfl rfl (q_shG (by omega)).1 (q_ltG (by omega)).1 (by decide) rfl rfl (Nat.le_of_ble_eq_true rfl) (x_askFor hk hg hw) x_out_n ?_
    refine G_st (L := 89) (k := 1) (18, [some (.ref 0), some (.ref (2 * k + 89)), some (.int (nI w))], [.int (-4), .int (I (2 * k + 90) w)], qS false gc I J) (q_hn _ _ _ _) rfl ?_
    refine G_icmp_eq 40 rfl rfl (fun h2 => ?_) (fun h2 => ?_)
    · skip
      refine G_st (L := 89) (k := 1) (41, [some (.ref 0), some (.ref (2 * k + 89)), some (.int (nI w))], [.int 0], qS false gc I J) (q_hn _ _ _ _) rfl ?_
      exact G_iret rfl rfl (by unfold x_mt; rw [q_b0.mp h1, decide_eq_true h2]; rfl) rfl
    · skip
      refine G_st (L := 89) (k := 4) (27, [some (.ref 0), some (.ref (2 * k + 89)), some (.int (nI w))], [.int (nI w), .ref (2 * k + 89), .ref 4], qS false gc I J) (q_hn _ _ _ _) rfl ?_
      refine G_callV (b := 2 * k + 89) (ci := 1) (as := [.int (nI w)]) (rest := [.ref 4]) rfl rfl (q_shG (by omega)).1 (q_ltG (by omega)).1 (by decide) rfl rfl (Nat.le_of_ble_eq_true rfl) (x_askFor hk hg hw) x_out_n ?_
      refine G_st (L := 89) (k := 0) (30, [some (.ref 0), some (.ref (2 * k + 89)), some (.int (nI w))], [.int (I (2 * k + 90) w), .ref 4], qS false gc I J) (q_hn _ _ _ _) rfl ?_
      refine G_callV (b := 4) (ci := 2) (as := [.int (I (2 * k + 90) w)]) (rest := []) rfl rfl rfl (q_lt (by decide)) (by decide) rfl rfl (Nat.le_of_ble_eq_true rfl) x_letsAsk4 x_out_n ?_
      refine G_st (L := 89) (k := 0) (33, [some (.ref 0), some (.ref (2 * k + 89)), some (.int (nI w))], [.int (q_b (x_las false I (I (2 * k + 90) w)))], qS false gc I J) (q_hn _ _ _ _) rfl ?_
      refine G_if_eq 40 rfl rfl (fun h3 => ?_) (fun h3 => ?_)
      · skip
        refine G_st (L := 89) (k := 1) (41, [some (.ref 0), some (.ref (2 * k + 89)), some (.int (nI w))], [.int 0], qS false gc I J) (q_hn _ _ _ _) rfl ?_
        exact G_iret rfl rfl (by unfold x_mt; rw [q_b0.mp h1, decide_eq_false h2, q_b0.mp h3]; rfl) rfl
      · skip
        refine G_st (L := 89) (k := 2) (41, [some (.ref 0), some (.ref (2 * k + 89)), some (.int (nI w))], [.int 1], qS false gc I J) (q_hn _ _ _ _) rfl ?_
        exact G_iret rfl rfl (by unfold x_mt; rw [q_b0.mp h1, decide_eq_false h2, q_b1 h3]; rfl) rfl
theorem x_mayTake_true {d : Nat} {gc : Nat} {I : Nat → Nat → Int32} {J : Nat → Nat → Int64} {k w : Nat} (hk : k < gc) (hg : gc ≤ 8) (hw : w < 30) : GM (d + 1) 94 [.ref 0, .ref (2 * k + 89), .int (nI w)] (qS true gc I J) (some (.int (q_b (x_mt true I w k)))) (qS true gc I J) := by
  refine GM_of (by decide) (Nat.le_refl _) (Nat.le_of_ble_eq_true rfl) q_bn ?_
  refine G_st (L := 89) (k := 0) (0, [some (.ref 0), some (.ref (2 * k + 89)), some (.int (nI w))], [], qS true gc I J) (q_hn _ _ _ _) rfl ?_
  refine G_st (L := 89) (k := 3) (5, [some (.ref 0), some (.ref (2 * k + 89)), some (.int (nI w))], [.ref (2 * k + 89)], qS true gc I J) (q_hn _ _ _ _) rfl ?_
  refine G_callV (b := 2 * k + 89) (ci := 1) (as := []) (rest := []) rfl rfl (q_shG (by omega)).1 (q_ltG (by omega)).1 (by decide) rfl rfl (Nat.le_of_ble_eq_true rfl) (x_hasWall hk hg) x_out_n ?_
  refine G_st (L := 89) (k := 0) (8, [some (.ref 0), some (.ref (2 * k + 89)), some (.int (nI w))], [.int (q_b (x_hw I k))], qS true gc I J) (q_hn _ _ _ _) rfl ?_
  refine G_if_ne 40 rfl rfl (fun h1 => ?_) (fun h1 => ?_)
  · skip
    refine G_st (L := 89) (k := 1) (41, [some (.ref 0), some (.ref (2 * k + 89)), some (.int (nI w))], [.int 0], qS true gc I J) (q_hn _ _ _ _) rfl ?_
    exact G_iret rfl rfl (by unfold x_mt; rw [q_b1 h1]; rfl) rfl
  · skip
    refine G_st (L := 89) (k := 2) (13, [some (.ref 0), some (.ref (2 * k + 89)), some (.int (nI w))], [.int (nI w), .ref (2 * k + 89)], qS true gc I J) (q_hn _ _ _ _) rfl ?_
    refine G_callV (b := 2 * k + 89) (ci := 1) (as := [.int (nI w)]) (rest := []) rfl rfl (q_shG (by omega)).1 (q_ltG (by omega)).1 (by decide) rfl rfl (Nat.le_of_ble_eq_true rfl) (x_askFor hk hg hw) x_out_n ?_
    refine G_st (L := 89) (k := 1) (18, [some (.ref 0), some (.ref (2 * k + 89)), some (.int (nI w))], [.int (-4), .int (I (2 * k + 90) w)], qS true gc I J) (q_hn _ _ _ _) rfl ?_
    refine G_icmp_eq 40 rfl rfl (fun h2 => ?_) (fun h2 => ?_)
    · skip
      refine G_st (L := 89) (k := 1) (41, [some (.ref 0), some (.ref (2 * k + 89)), some (.int (nI w))], [.int 0], qS true gc I J) (q_hn _ _ _ _) rfl ?_
      exact G_iret rfl rfl (by unfold x_mt; rw [q_b0.mp h1, decide_eq_true h2]; rfl) rfl
    · skip
      refine G_st (L := 89) (k := 4) (27, [some (.ref 0), some (.ref (2 * k + 89)), some (.int (nI w))], [.int (nI w), .ref (2 * k + 89), .ref 9], qS true gc I J) (q_hn _ _ _ _) rfl ?_
      refine G_callV (b := 2 * k + 89) (ci := 1) (as := [.int (nI w)]) (rest := [.ref 9]) rfl rfl (q_shG (by omega)).1 (q_ltG (by omega)).1 (by decide) rfl rfl (Nat.le_of_ble_eq_true rfl) (x_askFor hk hg hw) x_out_n ?_
      refine G_st (L := 89) (k := 0) (30, [some (.ref 0), some (.ref (2 * k + 89)), some (.int (nI w))], [.int (I (2 * k + 90) w), .ref 9], qS true gc I J) (q_hn _ _ _ _) rfl ?_
      refine G_callV (b := 9) (ci := 2) (as := [.int (I (2 * k + 90) w)]) (rest := []) rfl rfl rfl (q_lt (by decide)) (by decide) rfl rfl (Nat.le_of_ble_eq_true rfl) x_letsAsk9 x_out_n ?_
      refine G_st (L := 89) (k := 0) (33, [some (.ref 0), some (.ref (2 * k + 89)), some (.int (nI w))], [.int (q_b (x_las true I (I (2 * k + 90) w)))], qS true gc I J) (q_hn _ _ _ _) rfl ?_
      refine G_if_eq 40 rfl rfl (fun h3 => ?_) (fun h3 => ?_)
      · skip
        refine G_st (L := 89) (k := 1) (41, [some (.ref 0), some (.ref (2 * k + 89)), some (.int (nI w))], [.int 0], qS true gc I J) (q_hn _ _ _ _) rfl ?_
        exact G_iret rfl rfl (by unfold x_mt; rw [q_b0.mp h1, decide_eq_false h2, q_b0.mp h3]; rfl) rfl
      · skip
        refine G_st (L := 89) (k := 2) (41, [some (.ref 0), some (.ref (2 * k + 89)), some (.int (nI w))], [.int 1], qS true gc I J) (q_hn _ _ _ _) rfl ?_
        exact G_iret rfl rfl (by unfold x_mt; rw [q_b0.mp h1, decide_eq_false h2, q_b1 h3]; rfl) rfl
theorem x_mayTake {d : Nat} {sw : Bool} {gc : Nat} {I : Nat → Nat → Int32} {J : Nat → Nat → Int64} {k w : Nat} (hk : k < gc) (hg : gc ≤ 8) (hw : w < 30) : GM (d + 1) 94 [.ref 0, .ref (2 * k + 89), .int (nI w)] (qS sw gc I J) (some (.int (q_b (x_mt sw I w k)))) (qS sw gc I J) := by
  cases sw with
  | false => exact x_mayTake_false hk hg hw
  | true => exact x_mayTake_true hk hg hw
theorem f_jcmp_lt (a b : Int32) : f_jcmp a b < 0 ↔ a < b := by
  unfold f_jcmp
  by_cases h : b ≤ a
  · rw [if_pos h]
    constructor
    · intro h2
      split at h2 <;> exact absurd h2 (by decide)
    · intro h2
      rw [q_le_int] at h; rw [q_lt_int] at h2; omega
  · rw [if_neg h]
    constructor
    · intro _
      rw [q_le_int] at h; rw [q_lt_int]; omega
    · intro _; decide
theorem f_jcmp_eq (a b : Int32) : f_jcmp a b = 0 ↔ a = b := by
  unfold f_jcmp
  by_cases h : b ≤ a
  · rw [if_pos h]
    by_cases e : a = b
    · rw [if_pos e]; exact ⟨fun _ => e, fun _ => rfl⟩
    · rw [if_neg e]; exact ⟨fun h2 => absurd h2 (by decide), fun h2 => absurd h2 e⟩
  · rw [if_neg h]
    refine ⟨fun h2 => absurd h2 (by decide), fun h2 => ?_⟩
    rw [q_le_int] at h; rw [q_eq_int] at h2; omega
theorem x_isBetter {d : Nat} {sw : Bool} {gc : Nat} {I : Nat → Nat → Int32} {J : Nat → Nat → Int64} {k j w : Nat} (hk : k < gc) (hj : j < gc) (hg : gc ≤ 8) (hw : w < 30) : GM (d + 1) 95 [.ref (2 * k + 89), .ref (2 * j + 89), .int (nI w)] (qS sw gc I J) (some (.int (q_b (x_bt I w k j)))) (qS sw gc I J) := by
  refine GM_of (by decide) (Nat.le_refl _) (Nat.le_of_ble_eq_true rfl) q_bn ?_
  refine G_st (L := 89) (k := 0) (0, [some (.ref (2 * k + 89)), some (.ref (2 * j + 89)), some (.int (nI w)), none], [], qS sw gc I J) (q_hn _ _ _ _) rfl ?_
  refine G_st (L := 89) (k := 6) (20, [some (.ref (2 * k + 89)), some (.ref (2 * j + 89)), some (.int (nI w)), none], [.int (nI w), .ref (2 * k + 89)], qS sw gc I J) (q_hn _ _ _ _) rfl ?_
  refine G_callV (b := 2 * k + 89) (ci := 1) (as := [.int (nI w)]) (rest := []) rfl rfl (q_shG (by omega)).1 (q_ltG (by omega)).1 (by decide) rfl rfl (Nat.le_of_ble_eq_true rfl) (x_askFor (by omega) hg hw) x_out_n ?_
  refine G_st (L := 89) (k := 2) (25, [some (.ref (2 * k + 89)), some (.ref (2 * j + 89)), some (.int (nI w)), none], [.int (nI w), .ref (2 * j + 89), .int (I (2 * k + 90) w)], qS sw gc I J) (q_hn _ _ _ _) rfl ?_
  refine G_callV (b := 2 * j + 89) (ci := 1) (as := [.int (nI w)]) (rest := [.int (I (2 * k + 90) w)]) rfl rfl (q_shG (by omega)).1 (q_ltG (by omega)).1 (by decide) rfl rfl (Nat.le_of_ble_eq_true rfl) (x_askFor (by omega) hg hw) x_out_n ?_
  refine G_st (L := 89) (k := 0) (28, [some (.ref (2 * k + 89)), some (.ref (2 * j + 89)), some (.int (nI w)), none], [.int (I (2 * j + 90) w), .int (I (2 * k + 90) w)], qS sw gc I J) (q_hn _ _ _ _) rfl ?_
  refine G_callS (as := [.int (I (2 * k + 90) w), .int (I (2 * j + 90) w)]) (rest := []) rfl rfl rfl (Nat.le_of_ble_eq_true rfl) (m_jcmp _ _) x_out_n ?_
  refine G_st (L := 89) (k := 2) (33, [some (.ref (2 * k + 89)), some (.ref (2 * j + 89)), some (.int (nI w)), some (.int (f_jcmp (I (2 * k + 90) w) (I (2 * j + 90) w)))], [.int (f_jcmp (I (2 * k + 90) w) (I (2 * j + 90) w))], qS sw gc I J) (q_hn _ _ _ _) rfl ?_
  refine G_if_lt 51 rfl rfl (fun h1 => ?_) (fun h1 => ?_)
  · skip
    refine G_st (L := 89) (k := 2) (56, [some (.ref (2 * k + 89)), some (.ref (2 * j + 89)), some (.int (nI w)), some (.int (f_jcmp (I (2 * k + 90) w) (I (2 * j + 90) w)))], [.int 1], qS sw gc I J) (q_hn _ _ _ _) rfl ?_
    exact G_iret rfl rfl (by unfold x_bt; rw [decide_eq_true ((f_jcmp_lt _ _).mp h1)]; rfl) rfl
  · skip
    refine G_st (L := 89) (k := 1) (37, [some (.ref (2 * k + 89)), some (.ref (2 * j + 89)), some (.int (nI w)), some (.int (f_jcmp (I (2 * k + 90) w) (I (2 * j + 90) w)))], [.int (f_jcmp (I (2 * k + 90) w) (I (2 * j + 90) w))], qS sw gc I J) (q_hn _ _ _ _) rfl ?_
    refine G_if_ne 55 rfl rfl (fun h2 => ?_) (fun h2 => ?_)
    · skip
      refine G_st (L := 89) (k := 1) (56, [some (.ref (2 * k + 89)), some (.ref (2 * j + 89)), some (.int (nI w)), some (.int (f_jcmp (I (2 * k + 90) w) (I (2 * j + 90) w)))], [.int 0], qS sw gc I J) (q_hn _ _ _ _) rfl ?_
      exact G_iret rfl rfl (by unfold x_bt; rw [decide_eq_false (fun e => h1 ((f_jcmp_lt _ _).mpr e)), decide_eq_false (fun e => h2 ((f_jcmp_eq _ _).mpr e))]; rfl) rfl
    · skip
      refine G_st (L := 89) (k := 1) (41, [some (.ref (2 * k + 89)), some (.ref (2 * j + 89)), some (.int (nI w)), some (.int (f_jcmp (I (2 * k + 90) w) (I (2 * j + 90) w)))], [.ref (2 * k + 89)], qS sw gc I J) (q_hn _ _ _ _) rfl ?_
      refine G_get (ci := 1) (k := 3) (i := 2 * k + 89) rfl rfl (q_shG (by omega)).1 (q_ltG (by omega)).1 ?_
      refine G_st (L := 89) (k := 1) (45, [some (.ref (2 * k + 89)), some (.ref (2 * j + 89)), some (.int (nI w)), some (.int (f_jcmp (I (2 * k + 90) w) (I (2 * j + 90) w)))], [.ref (2 * j + 89), .int (I (2 * k + 89) 3)], qS sw gc I J) (q_hn _ _ _ _) rfl ?_
      refine G_get (ci := 1) (k := 3) (i := 2 * j + 89) rfl rfl (q_shG (by omega)).1 (q_ltG (by omega)).1 ?_
      refine G_st (L := 89) (k := 0) (48, [some (.ref (2 * k + 89)), some (.ref (2 * j + 89)), some (.int (nI w)), some (.int (f_jcmp (I (2 * k + 90) w) (I (2 * j + 90) w)))], [.int (I (2 * j + 89) 3), .int (I (2 * k + 89) 3)], qS sw gc I J) (q_hn _ _ _ _) rfl ?_
      refine G_icmp_ge 55 rfl rfl (fun h3 => ?_) (fun h3 => ?_)
      · skip
        refine G_st (L := 89) (k := 1) (56, [some (.ref (2 * k + 89)), some (.ref (2 * j + 89)), some (.int (nI w)), some (.int (f_jcmp (I (2 * k + 90) w) (I (2 * j + 90) w)))], [.int 0], qS sw gc I J) (q_hn _ _ _ _) rfl ?_
        exact G_iret rfl rfl (by unfold x_bt; rw [decide_eq_false (fun e => h1 ((f_jcmp_lt _ _).mpr e)), decide_eq_true ((f_jcmp_eq _ _).mp h2), decide_eq_false (Int32.not_lt.mpr h3)]; rfl) rfl
      · skip
        refine G_st (L := 89) (k := 2) (56, [some (.ref (2 * k + 89)), some (.ref (2 * j + 89)), some (.int (nI w)), some (.int (f_jcmp (I (2 * k + 90) w) (I (2 * j + 90) w)))], [.int 1], qS sw gc I J) (q_hn _ _ _ _) rfl ?_
        exact G_iret rfl rfl (by unfold x_bt; rw [decide_eq_false (fun e => h1 ((f_jcmp_lt _ _).mpr e)), decide_eq_true ((f_jcmp_eq _ _).mp h2), decide_eq_true (Int32.not_le.mp h3)]; rfl) rfl
theorem x_isBetterN {d : Nat} {sw : Bool} {gc : Nat} {I : Nat → Nat → Int32} {J : Nat → Nat → Int64} {k : Nat} {x : Int32} : GM (d + 1) 95 [.ref (2 * k + 89), .null, .int x] (qS sw gc I J) (some (.int 1)) (qS sw gc I J) := by
  refine GM_of (by decide) (Nat.le_refl _) (Nat.le_of_ble_eq_true rfl) rfl ?_
  refine G_st (L := 89) (k := 0) (0, [some (.ref (2 * k + 89)), some (.null), some (.int x), none], [], qS sw gc I J) (q_hn _ _ _ _) rfl ?_
  refine G_st (L := 89) (k := 8) (17, [some (.ref (2 * k + 89)), some (.null), some (.int x), none], [.int 1], qS sw gc I J) (q_hn _ _ _ _) rfl ?_
  exact G_iret rfl rfl rfl rfl
def x_bst (sw : Bool) (I : Nat → Nat → Int32) (gc w : Nat) : Option Nat := q_bs (x_mt sw I w) (x_bt I w) gc 0 none
def x_okO (gc : Nat) : Option Nat → Prop
  | none => True
  | some k => k < gc
theorem x_ltb_loop {d : Nat} {sw : Bool} {gc : Nat} {I : Nat → Nat → Int32} {J : Nat → Nat → Int64} {w : Nat} (hgc : I 0 6 = nI gc) (hg : gc ≤ 8) (hw : w < 30) {r : Int32} {I2 : Nat → Nat → Int32} {J2 : Nat → Nat → Int64} (g : ∀ b : Option Nat, x_okO gc b → b = b → b = x_bst sw I gc w → G (d + 2) 93 (54, [some (.ref 0), some (.int (nI w)), some (.int (x_oi b)), none, none], [], qS sw gc I J) (some (.int r)) (qS sw gc I2 J2)) : ∀ (n i : Nat) (b : Option Nat), i + n = gc → x_okO gc b → q_bs (x_mt sw I w) (x_bt I w) n i b = x_bst sw I gc w → G (d + 2) 93 (5, [some (.ref 0), some (.int (nI w)), some (.int (x_oi b)), some (.int (nI i)), none], [], qS sw gc I J) (some (.int r)) (qS sw gc I2 J2) := by
  intro n
  induction n with
  | zero =>
    intro i b h ho he
    obtain rfl : gc = i := by omega
    refine G_st (L := 89) (k := 3) (10, [some (.ref 0), some (.int (nI w)), some (.int (x_oi b)), some (.int (nI gc)), none], [.int (I 0 6), .int (nI gc)], qS sw gc I J) (q_hn _ _ _ _) rfl ?_
    rw [show I 0 6 = nI gc from hgc]
    refine G_icmp_ge 54 rfl rfl (fun _ => ?_) (fun h9 => absurd (nI_le (Nat.le_refl _) (by omega)) h9)
    refine G_fg [some (.ref 0), some (.int (nI w)), some (.int (x_oi b)), none, none] (by repeat (first | exact trivial | refine ⟨rfl, ?_⟩)) ?_
    exact g b ho rfl he
  | succ n ih =>
    intro i b h ho he
    change q_bs (x_mt sw I w) (x_bt I w) n (i + 1) (cond (x_mt sw I w i && q_bto (x_bt I w i) b) (some i) b) = _ at he
    cases hm : x_mt sw I w i with
    | false =>
      rw [hm] at he
      refine G_st (L := 89) (k := 3) (10, [some (.ref 0), some (.int (nI w)), some (.int (x_oi b)), some (.int (nI i)), none], [.int (I 0 6), .int (nI i)], qS sw gc I J) (q_hn _ _ _ _) rfl ?_
      rw [show I 0 6 = nI gc from hgc]
      refine G_icmp_ge 54 rfl rfl (fun h9 => absurd h9 (nI_ge (by omega) (by omega))) (fun _ => ?_)
      refine G_st (L := 89) (k := 4) (17, [some (.ref 0), some (.int (nI w)), some (.int (x_oi b)), some (.int (nI i)), none], [.long (Int32.toInt64 (nI i)), .ref 0, .ref 0], qS sw gc I J) (q_hn _ _ _ _) rfl ?_
      rw [show Int32.toInt64 (nI i) = lN i from (q_i2lP rfl (by omega))]
      refine G_callV (b := 0) (ci := 8) (as := [.long (lN i)]) (rest := [.ref 0]) rfl rfl rfl (q_lt (by decide)) (by decide) rfl rfl (Nat.le_of_ble_eq_true rfl) (x_gangAt hgc hg (by omega)) x_out_n ?_
      refine G_st (L := 89) (k := 1) (21, [some (.ref 0), some (.int (nI w)), some (.int (x_oi b)), some (.int (nI i)), none], [.int (nI w), .ref (2 * i + 89), .ref 0], qS sw gc I J) (q_hn _ _ _ _) rfl ?_
      refine G_callV (b := 0) (ci := 8) (as := [.ref (2 * i + 89), .int (nI w)]) (rest := []) rfl rfl rfl (q_lt (by decide)) (by decide) rfl rfl (Nat.le_of_ble_eq_true rfl) (GM_r (x_mayTake (by omega) hg hw) (congrArg q_b hm)) x_out_n ?_
      refine G_st (L := 89) (k := 0) (24, [some (.ref 0), some (.int (nI w)), some (.int (x_oi b)), some (.int (nI i)), none], [.int 0], qS sw gc I J) (q_hn _ _ _ _) rfl ?_
      refine G_if_eq 48 rfl rfl (fun _ => ?_) (fun h9 => absurd h9 (by decide))
      refine G_st (L := 89) (k := 2) (5, [some (.ref 0), some (.int (nI w)), some (.int (x_oi b)), some (.int ((nI i) + 1)), none], [], qS sw gc I J) (q_hn _ _ _ _) rfl ?_
      rw [show (nI i) + 1 = nI (i + 1) from (q_addP rfl rfl)]
      exact ih (i + 1) b (by omega) ho he
    | true =>
      rw [hm] at he
      cases b with
      | none =>
        show G (d + 2) 93 (5, [some (.ref 0), some (.int (nI w)), some (.int (-4)), some (.int (nI i)), none], [], qS sw gc I J) (some (.int r)) (qS sw gc I2 J2)
        refine G_st (L := 89) (k := 3) (10, [some (.ref 0), some (.int (nI w)), some (.int (-4)), some (.int (nI i)), none], [.int (I 0 6), .int (nI i)], qS sw gc I J) (q_hn _ _ _ _) rfl ?_
        rw [show I 0 6 = nI gc from hgc]
        refine G_icmp_ge 54 rfl rfl (fun h9 => absurd h9 (nI_ge (by omega) (by omega))) (fun _ => ?_)
        refine G_st (L := 89) (k := 4) (17, [some (.ref 0), some (.int (nI w)), some (.int (-4)), some (.int (nI i)), none], [.long (Int32.toInt64 (nI i)), .ref 0, .ref 0], qS sw gc I J) (q_hn _ _ _ _) rfl ?_
        rw [show Int32.toInt64 (nI i) = lN i from (q_i2lP rfl (by omega))]
        refine G_callV (b := 0) (ci := 8) (as := [.long (lN i)]) (rest := [.ref 0]) rfl rfl rfl (q_lt (by decide)) (by decide) rfl rfl (Nat.le_of_ble_eq_true rfl) (x_gangAt hgc hg (by omega)) x_out_n ?_
        refine G_st (L := 89) (k := 1) (21, [some (.ref 0), some (.int (nI w)), some (.int (-4)), some (.int (nI i)), none], [.int (nI w), .ref (2 * i + 89), .ref 0], qS sw gc I J) (q_hn _ _ _ _) rfl ?_
        refine G_callV (b := 0) (ci := 8) (as := [.ref (2 * i + 89), .int (nI w)]) (rest := []) rfl rfl rfl (q_lt (by decide)) (by decide) rfl rfl (Nat.le_of_ble_eq_true rfl) (GM_r (x_mayTake (by omega) hg hw) (congrArg q_b hm)) x_out_n ?_
        refine G_st (L := 89) (k := 0) (24, [some (.ref 0), some (.int (nI w)), some (.int (-4)), some (.int (nI i)), none], [.int 1], qS sw gc I J) (q_hn _ _ _ _) rfl ?_
        refine G_if_eq 48 rfl rfl (fun h9 => absurd h9 (by decide)) (fun _ => ?_)
        refine G_st (L := 89) (k := 3) (30, [some (.ref 0), some (.int (nI w)), some (.int (-4)), some (.int (nI i)), none], [.long (Int32.toInt64 (nI i)), .ref 0], qS sw gc I J) (q_hn _ _ _ _) rfl ?_
        rw [show Int32.toInt64 (nI i) = lN i from (q_i2lP rfl (by omega))]
        refine G_callV (b := 0) (ci := 8) (as := [.long (lN i)]) (rest := []) rfl rfl rfl (q_lt (by decide)) (by decide) rfl rfl (Nat.le_of_ble_eq_true rfl) (x_gangAt hgc hg (by omega)) x_out_n ?_
        refine G_st (L := 89) (k := 3) (36, [some (.ref 0), some (.int (nI w)), some (.int (-4)), some (.int (nI i)), none], [.long (-4), .ref 0, .ref (2 * i + 89)], qS sw gc I J) (q_hn _ _ _ _) rfl ?_
        refine G_callV (b := 0) (ci := 8) (as := [.long (-4)]) (rest := [.ref (2 * i + 89)]) rfl rfl rfl (q_lt (by decide)) (by decide) rfl rfl (Nat.le_of_ble_eq_true rfl) (x_gangAtN hgc hg (Or.inl (by decide))) x_out_n ?_
        refine G_st (L := 89) (k := 1) (40, [some (.ref 0), some (.int (nI w)), some (.int (-4)), some (.int (nI i)), none], [.int (nI w), .null, .ref (2 * i + 89)], qS sw gc I J) (q_hn _ _ _ _) rfl ?_
        refine G_callS (as := [.ref (2 * i + 89), .null, .int (nI w)]) (rest := []) rfl rfl rfl (Nat.le_of_ble_eq_true rfl) x_isBetterN x_out_n ?_
        refine G_st (L := 89) (k := 0) (43, [some (.ref 0), some (.int (nI w)), some (.int (-4)), some (.int (nI i)), none], [.int 1], qS sw gc I J) (q_hn _ _ _ _) rfl ?_
        refine G_if_eq 48 rfl rfl (fun h9 => absurd h9 (by decide)) (fun _ => ?_)
        refine G_st (L := 89) (k := 4) (5, [some (.ref 0), some (.int (nI w)), some (.int (nI i)), some (.int ((nI i) + 1)), none], [], qS sw gc I J) (q_hn _ _ _ _) rfl ?_
        rw [show (nI i) + 1 = nI (i + 1) from (q_addP rfl rfl)]
        exact ih (i + 1) (some i) (by omega) (show i < gc by omega) he
      | some j =>
        have hj : j < gc := ho
        show G (d + 2) 93 (5, [some (.ref 0), some (.int (nI w)), some (.int (nI j)), some (.int (nI i)), none], [], qS sw gc I J) (some (.int r)) (qS sw gc I2 J2)
        cases hb : x_bt I w i j with
        | false =>
          simp only [q_bto, hb] at he
          refine G_st (L := 89) (k := 3) (10, [some (.ref 0), some (.int (nI w)), some (.int (nI j)), some (.int (nI i)), none], [.int (I 0 6), .int (nI i)], qS sw gc I J) (q_hn _ _ _ _) rfl ?_
          rw [show I 0 6 = nI gc from hgc]
          refine G_icmp_ge 54 rfl rfl (fun h9 => absurd h9 (nI_ge (by omega) (by omega))) (fun _ => ?_)
          refine G_st (L := 89) (k := 4) (17, [some (.ref 0), some (.int (nI w)), some (.int (nI j)), some (.int (nI i)), none], [.long (Int32.toInt64 (nI i)), .ref 0, .ref 0], qS sw gc I J) (q_hn _ _ _ _) rfl ?_
          rw [show Int32.toInt64 (nI i) = lN i from (q_i2lP rfl (by omega))]
          refine G_callV (b := 0) (ci := 8) (as := [.long (lN i)]) (rest := [.ref 0]) rfl rfl rfl (q_lt (by decide)) (by decide) rfl rfl (Nat.le_of_ble_eq_true rfl) (x_gangAt hgc hg (by omega)) x_out_n ?_
          refine G_st (L := 89) (k := 1) (21, [some (.ref 0), some (.int (nI w)), some (.int (nI j)), some (.int (nI i)), none], [.int (nI w), .ref (2 * i + 89), .ref 0], qS sw gc I J) (q_hn _ _ _ _) rfl ?_
          refine G_callV (b := 0) (ci := 8) (as := [.ref (2 * i + 89), .int (nI w)]) (rest := []) rfl rfl rfl (q_lt (by decide)) (by decide) rfl rfl (Nat.le_of_ble_eq_true rfl) (GM_r (x_mayTake (by omega) hg hw) (congrArg q_b hm)) x_out_n ?_
          refine G_st (L := 89) (k := 0) (24, [some (.ref 0), some (.int (nI w)), some (.int (nI j)), some (.int (nI i)), none], [.int 1], qS sw gc I J) (q_hn _ _ _ _) rfl ?_
          refine G_if_eq 48 rfl rfl (fun h9 => absurd h9 (by decide)) (fun _ => ?_)
          refine G_st (L := 89) (k := 3) (30, [some (.ref 0), some (.int (nI w)), some (.int (nI j)), some (.int (nI i)), none], [.long (Int32.toInt64 (nI i)), .ref 0], qS sw gc I J) (q_hn _ _ _ _) rfl ?_
          rw [show Int32.toInt64 (nI i) = lN i from (q_i2lP rfl (by omega))]
          refine G_callV (b := 0) (ci := 8) (as := [.long (lN i)]) (rest := []) rfl rfl rfl (q_lt (by decide)) (by decide) rfl rfl (Nat.le_of_ble_eq_true rfl) (x_gangAt hgc hg (by omega)) x_out_n ?_
          refine G_st (L := 89) (k := 3) (36, [some (.ref 0), some (.int (nI w)), some (.int (nI j)), some (.int (nI i)), none], [.long (Int32.toInt64 (nI j)), .ref 0, .ref (2 * i + 89)], qS sw gc I J) (q_hn _ _ _ _) rfl ?_
          rw [show Int32.toInt64 (nI j) = lN j from (q_i2lP rfl (by omega))]
          refine G_callV (b := 0) (ci := 8) (as := [.long (lN j)]) (rest := [.ref (2 * i + 89)]) rfl rfl rfl (q_lt (by decide)) (by decide) rfl rfl (Nat.le_of_ble_eq_true rfl) (x_gangAt hgc hg (by exact ho)) x_out_n ?_
          refine G_st (L := 89) (k := 1) (40, [some (.ref 0), some (.int (nI w)), some (.int (nI j)), some (.int (nI i)), none], [.int (nI w), .ref (2 * j + 89), .ref (2 * i + 89)], qS sw gc I J) (q_hn _ _ _ _) rfl ?_
          refine G_callS (as := [.ref (2 * i + 89), .ref (2 * j + 89), .int (nI w)]) (rest := []) rfl rfl rfl (Nat.le_of_ble_eq_true rfl) (GM_r (x_isBetter (by omega) (by exact ho) hg hw) (congrArg q_b hb)) x_out_n ?_
          refine G_st (L := 89) (k := 0) (43, [some (.ref 0), some (.int (nI w)), some (.int (nI j)), some (.int (nI i)), none], [.int 0], qS sw gc I J) (q_hn _ _ _ _) rfl ?_
          refine G_if_eq 48 rfl rfl (fun _ => ?_) (fun h9 => absurd h9 (by decide))
          refine G_st (L := 89) (k := 2) (5, [some (.ref 0), some (.int (nI w)), some (.int (nI j)), some (.int ((nI i) + 1)), none], [], qS sw gc I J) (q_hn _ _ _ _) rfl ?_
          rw [show (nI i) + 1 = nI (i + 1) from (q_addP rfl rfl)]
          exact ih (i + 1) (some j) (by omega) ho he
        | true =>
          simp only [q_bto, hb] at he
          refine G_st (L := 89) (k := 3) (10, [some (.ref 0), some (.int (nI w)), some (.int (nI j)), some (.int (nI i)), none], [.int (I 0 6), .int (nI i)], qS sw gc I J) (q_hn _ _ _ _) rfl ?_
          rw [show I 0 6 = nI gc from hgc]
          refine G_icmp_ge 54 rfl rfl (fun h9 => absurd h9 (nI_ge (by omega) (by omega))) (fun _ => ?_)
          refine G_st (L := 89) (k := 4) (17, [some (.ref 0), some (.int (nI w)), some (.int (nI j)), some (.int (nI i)), none], [.long (Int32.toInt64 (nI i)), .ref 0, .ref 0], qS sw gc I J) (q_hn _ _ _ _) rfl ?_
          rw [show Int32.toInt64 (nI i) = lN i from (q_i2lP rfl (by omega))]
          refine G_callV (b := 0) (ci := 8) (as := [.long (lN i)]) (rest := [.ref 0]) rfl rfl rfl (q_lt (by decide)) (by decide) rfl rfl (Nat.le_of_ble_eq_true rfl) (x_gangAt hgc hg (by omega)) x_out_n ?_
          refine G_st (L := 89) (k := 1) (21, [some (.ref 0), some (.int (nI w)), some (.int (nI j)), some (.int (nI i)), none], [.int (nI w), .ref (2 * i + 89), .ref 0], qS sw gc I J) (q_hn _ _ _ _) rfl ?_
          refine G_callV (b := 0) (ci := 8) (as := [.ref (2 * i + 89), .int (nI w)]) (rest := []) rfl rfl rfl (q_lt (by decide)) (by decide) rfl rfl (Nat.le_of_ble_eq_true rfl) (GM_r (x_mayTake (by omega) hg hw) (congrArg q_b hm)) x_out_n ?_
          refine G_st (L := 89) (k := 0) (24, [some (.ref 0), some (.int (nI w)), some (.int (nI j)), some (.int (nI i)), none], [.int 1], qS sw gc I J) (q_hn _ _ _ _) rfl ?_
          refine G_if_eq 48 rfl rfl (fun h9 => absurd h9 (by decide)) (fun _ => ?_)
          refine G_st (L := 89) (k := 3) (30, [some (.ref 0), some (.int (nI w)), some (.int (nI j)), some (.int (nI i)), none], [.long (Int32.toInt64 (nI i)), .ref 0], qS sw gc I J) (q_hn _ _ _ _) rfl ?_
          rw [show Int32.toInt64 (nI i) = lN i from (q_i2lP rfl (by omega))]
          refine G_callV (b := 0) (ci := 8) (as := [.long (lN i)]) (rest := []) rfl rfl rfl (q_lt (by decide)) (by decide) rfl rfl (Nat.le_of_ble_eq_true rfl) (x_gangAt hgc hg (by omega)) x_out_n ?_
          refine G_st (L := 89) (k := 3) (36, [some (.ref 0), some (.int (nI w)), some (.int (nI j)), some (.int (nI i)), none], [.long (Int32.toInt64 (nI j)), .ref 0, .ref (2 * i + 89)], qS sw gc I J) (q_hn _ _ _ _) rfl ?_
          rw [show Int32.toInt64 (nI j) = lN j from (q_i2lP rfl (by omega))]
          refine G_callV (b := 0) (ci := 8) (as := [.long (lN j)]) (rest := [.ref (2 * i + 89)]) rfl rfl rfl (q_lt (by decide)) (by decide) rfl rfl (Nat.le_of_ble_eq_true rfl) (x_gangAt hgc hg (by exact ho)) x_out_n ?_
          refine G_st (L := 89) (k := 1) (40, [some (.ref 0), some (.int (nI w)), some (.int (nI j)), some (.int (nI i)), none], [.int (nI w), .ref (2 * j + 89), .ref (2 * i + 89)], qS sw gc I J) (q_hn _ _ _ _) rfl ?_
          refine G_callS (as := [.ref (2 * i + 89), .ref (2 * j + 89), .int (nI w)]) (rest := []) rfl rfl rfl (Nat.le_of_ble_eq_true rfl) (GM_r (x_isBetter (by omega) (by exact ho) hg hw) (congrArg q_b hb)) x_out_n ?_
          refine G_st (L := 89) (k := 0) (43, [some (.ref 0), some (.int (nI w)), some (.int (nI j)), some (.int (nI i)), none], [.int 1], qS sw gc I J) (q_hn _ _ _ _) rfl ?_
          refine G_if_eq 48 rfl rfl (fun h9 => absurd h9 (by decide)) (fun _ => ?_)
          refine G_st (L := 89) (k := 4) (5, [some (.ref 0), some (.int (nI w)), some (.int (nI i)), some (.int ((nI i) + 1)), none], [], qS sw gc I J) (q_hn _ _ _ _) rfl ?_
          rw [show (nI i) + 1 = nI (i + 1) from (q_addP rfl rfl)]
          exact ih (i + 1) (some i) (by omega) (show i < gc by omega) he
theorem x_letToBestN {d : Nat} {sw : Bool} {gc : Nat} {I : Nat → Nat → Int32} {J : Nat → Nat → Int64} {w : Nat} (hgc : I 0 6 = nI gc) (hg : gc ≤ 8) (hw : w < 30) (hb : x_bst sw I gc w = none) : GM (d + 2) 93 [.ref 0, .int (nI w)] (qS sw gc I J) (some (.int 0)) (qS sw gc I J) := by
  refine GM_of (by decide) (Nat.le_refl _) (Nat.le_of_ble_eq_true rfl) rfl ?_
  refine G_st (L := 89) (k := 4) (5, [some (.ref 0), some (.int (nI w)), some (.int (-4)), some (.int 0), none], [], qS sw gc I J) (q_hn _ _ _ _) rfl ?_
  refine x_ltb_loop hgc hg hw (fun b hok _ h9 => ?_) gc 0 none (by omega) trivial rfl
  rw [hb] at h9
  subst h9
  show G (d + 2) 93 (54, [some (.ref 0), some (.int (nI w)), some (.int (-4)), none, none], [], qS sw gc I J) (some (.int 0)) (qS sw gc I J)
  refine G_st (L := 89) (k := 3) (57, [some (.ref 0), some (.int (nI w)), some (.int (-4)), none, none], [.long (-4), .ref 0], qS sw gc I J) (q_hn _ _ _ _) rfl ?_
  refine G_callV (b := 0) (ci := 8) (as := [.long (-4)]) (rest := []) rfl rfl rfl (q_lt (by decide)) (by decide) rfl rfl (Nat.le_of_ble_eq_true rfl) (x_gangAtN hgc hg (Or.inl (by decide))) x_out_n ?_
  refine G_st (L := 89) (k := 4) (66, [some (.ref 0), some (.int (nI w)), some (.int (-4)), some (.null), none], [.int (nI w), .ref 14], qS sw gc I J) (q_hn _ _ _ _) rfl ?_
  refine G_callV (b := 14) (ci := 0) (as := [.int (nI w)]) (rest := []) rfl rfl rfl (q_lt (by decide)) (by decide) rfl rfl (Nat.le_of_ble_eq_true rfl) (x_wallAt hw) x_out_n ?_
  refine G_st (L := 89) (k := 4) (81, [some (.ref 0), some (.int (nI w)), some (.int (-4)), some (.null), some (.ref (w + 16))], [.int 0], qS sw gc I J) (q_hn _ _ _ _) rfl ?_
  exact G_iret rfl rfl rfl rfl
def x_lt (I : Nat → Nat → Int32) (k w : Nat) : Nat → Nat → Int32 := q_u (x_tk I k w) (w + 16) 3 (nI k)
theorem x_letToBest {d : Nat} {sw : Bool} {gc : Nat} {I : Nat → Nat → Int32} {J : Nat → Nat → Int64} {w k : Nat} (hgc : I 0 6 = nI gc) (hg : gc ≤ 8) (hw : w < 30) (hb : x_bst sw I gc w = some k) : GM (d + 2) 93 [.ref 0, .int (nI w)] (qS sw gc I J) (some (.int 1)) (qS sw gc (x_lt I k w) J) := by
  refine GM_of (by decide) (Nat.le_refl _) (Nat.le_of_ble_eq_true rfl) rfl ?_
  refine G_st (L := 89) (k := 4) (5, [some (.ref 0), some (.int (nI w)), some (.int (-4)), some (.int 0), none], [], qS sw gc I J) (q_hn _ _ _ _) rfl ?_
  refine x_ltb_loop hgc hg hw (fun b hok _ h9 => ?_) gc 0 none (by omega) trivial rfl
  rw [hb] at h9
  subst h9
  have hk : k < gc := hok
  show G (d + 2) 93 (54, [some (.ref 0), some (.int (nI w)), some (.int (nI k)), none, none], [], qS sw gc I J) (some (.int 1)) (qS sw gc (x_lt I k w) J)
  refine G_st (L := 89) (k := 3) (57, [some (.ref 0), some (.int (nI w)), some (.int (nI k)), none, none], [.long (Int32.toInt64 (nI k)), .ref 0], qS sw gc I J) (q_hn _ _ _ _) rfl ?_
  rw [show Int32.toInt64 (nI k) = lN k from (q_i2lP rfl (by omega))]
  refine G_callV (b := 0) (ci := 8) (as := [.long (lN k)]) (rest := []) rfl rfl rfl (q_lt (by decide)) (by decide) rfl rfl (Nat.le_of_ble_eq_true rfl) (x_gangAt hgc hg hk) x_out_n ?_
  refine G_st (L := 89) (k := 4) (66, [some (.ref 0), some (.int (nI w)), some (.int (nI k)), some (.ref (2 * k + 89)), none], [.int (nI w), .ref 14], qS sw gc I J) (q_hn _ _ _ _) rfl ?_
  refine G_callV (b := 14) (ci := 0) (as := [.int (nI w)]) (rest := []) rfl rfl rfl (q_lt (by decide)) (by decide) rfl rfl (Nat.le_of_ble_eq_true rfl) (x_wallAt hw) x_out_n ?_
  refine G_st (L := 89) (k := 7) (84, [some (.ref 0), some (.int (nI w)), some (.int (nI k)), some (.ref (2 * k + 89)), some (.ref (w + 16))], [.int (nI w), .ref (2 * k + 89)], qS sw gc I J) (q_hn _ _ _ _) rfl ?_
  refine G_callV (b := 2 * k + 89) (ci := 1) (as := [.int (nI w)]) (rest := []) rfl rfl (q_shG (by omega)).1 (q_ltG (by omega)).1 (by decide) rfl rfl (Nat.le_of_ble_eq_true rfl) (x_take hk hg hw) x_out_n ?_
  refine G_st (L := 89) (k := 2) (90, [some (.ref 0), some (.int (nI w)), some (.int (nI k)), some (.ref (2 * k + 89)), some (.ref (w + 16))], [.int (nI k), .ref (w + 16)], qS sw gc (x_tk I k w) J) (q_hn _ _ _ _) rfl ?_
  refine G_put (ci := 7) (k := 3) (i := w + 16) (M1 := qS sw gc (q_u (x_tk I k w) (w + 16) 3 (nI k)) J) rfl rfl (q_shW (by omega)) (q_ltW (by omega)) rfl rfl rfl ?_
  refine G_st (L := 89) (k := 1) (94, [some (.ref 0), some (.int (nI w)), some (.int (nI k)), some (.ref (2 * k + 89)), some (.ref (w + 16))], [.int 1], qS sw gc (q_u (x_tk I k w) (w + 16) 3 (nI k)) J) (q_hn _ _ _ _) rfl ?_
  exact G_iret rfl rfl rfl rfl
def x_letI (sw : Bool) (gc : Nat) : Nat → Nat → (Nat → Nat → Int32) → (Nat → Nat → Int32)
  | 0, _, I => I
  | n + 1, w, I => match cond (x_may I w) (x_bst sw I gc w) none with
    | none => x_letI sw gc n (w + 1) I
    | some k => x_letI sw gc n (w + 1) (x_lt I k w)
def x_letC (sw : Bool) (gc : Nat) : Nat → Nat → (Nat → Nat → Int32) → Nat
  | 0, _, I => 0
  | n + 1, w, I => match cond (x_may I w) (x_bst sw I gc w) none with
    | none => x_letC sw gc n (w + 1) I
    | some k => x_letC sw gc n (w + 1) (x_lt I k w) + 1
theorem x_lt_gc (I : Nat → Nat → Int32) (k w : Nat) : x_lt I k w 0 6 = I 0 6 := by
  unfold x_lt x_tk
  rw [q_un _ _ (by omega), q_un _ _ (by omega), q_un _ _ (by omega), q_un _ _ (by omega)]
theorem x_let_loop {d : Nat} {sw : Bool} {gc : Nat} {J : Nat → Nat → Int64} (hg : gc ≤ 8) : ∀ (n w c : Nat) (I : Nat → Nat → Int32), I 0 6 = nI gc → w + n = 30 → c + n < 1000 → G (d + 3) 80 (19, [some (.ref 0), some (.int (nI c)), some (.int (nI w))], [], qS sw gc I J) (some (.int (nI (c + x_letC sw gc n w I)))) (qS sw gc (x_letI sw gc n w I) J) := by
  intro n
  induction n with
  | zero =>
    intro w c I hgc h h2
    obtain rfl : w = 30 := by omega
    refine G_st (L := 89) (k := 2) (22, [some (.ref 0), some (.int (nI c)), some (.int 30)], [.int 30, .int 30], qS sw gc I J) (q_hn _ _ _ _) rfl ?_
    refine G_icmp_ge 53 rfl rfl (fun _ => ?_) (fun h9 => absurd h9 (by decide))
    refine G_st (L := 89) (k := 1) (54, [some (.ref 0), some (.int (nI c)), some (.int 30)], [.int (nI c)], qS sw gc I J) (q_hn _ _ _ _) rfl ?_
    exact G_iret rfl rfl rfl rfl
  | succ n ih =>
    intro w c I hgc h h2
    have hw : w < 30 := by omega
    cases hm : x_may I w with
    | false =>
      have e1 : x_letC sw gc (n + 1) w I = x_letC sw gc n (w + 1) I := by rw [x_letC, hm]; rfl
      have e2 : x_letI sw gc (n + 1) w I = x_letI sw gc n (w + 1) I := by rw [x_letI, hm]; rfl
      rw [e1, e2]
      refine G_st (L := 89) (k := 2) (22, [some (.ref 0), some (.int (nI c)), some (.int (nI w))], [.int 30, .int (nI w)], qS sw gc I J) (q_hn _ _ _ _) rfl ?_
      refine G_icmp_ge 53 rfl rfl (fun h9 => absurd h9 (nI_ge (b := 30) (by omega) (by decide))) (fun _ => ?_)
      refine G_st (L := 89) (k := 3) (30, [some (.ref 0), some (.int (nI c)), some (.int (nI w))], [.int (nI w), .ref 14], qS sw gc I J) (q_hn _ _ _ _) rfl ?_
      refine G_callV (b := 14) (ci := 0) (as := [.int (nI w)]) (rest := []) rfl rfl rfl (q_lt (by decide)) (by decide) rfl rfl (Nat.le_of_ble_eq_true rfl) (GM_r (x_mayBeWorked hw) (congrArg q_b hm)) x_out_n ?_
      refine G_st (L := 89) (k := 0) (33, [some (.ref 0), some (.int (nI c)), some (.int (nI w))], [.int 0], qS sw gc I J) (q_hn _ _ _ _) rfl ?_
      refine G_if_eq 47 rfl rfl (fun _ => ?_) (fun h9 => absurd h9 (by decide))
      refine G_st (L := 89) (k := 2) (19, [some (.ref 0), some (.int (nI c)), some (.int ((nI w) + 1))], [], qS sw gc I J) (q_hn _ _ _ _) rfl ?_
      rw [show (nI w) + 1 = nI (w + 1) from (q_addP rfl rfl)]
      exact ih (w + 1) c I hgc (by omega) (by omega)
    | true =>
      cases hb : x_bst sw I gc w with
      | none =>
        have e1 : x_letC sw gc (n + 1) w I = x_letC sw gc n (w + 1) I := by rw [x_letC, hm, hb]; rfl
        have e2 : x_letI sw gc (n + 1) w I = x_letI sw gc n (w + 1) I := by rw [x_letI, hm, hb]; rfl
        rw [e1, e2]
        refine G_st (L := 89) (k := 2) (22, [some (.ref 0), some (.int (nI c)), some (.int (nI w))], [.int 30, .int (nI w)], qS sw gc I J) (q_hn _ _ _ _) rfl ?_
        refine G_icmp_ge 53 rfl rfl (fun h9 => absurd h9 (nI_ge (b := 30) (by omega) (by decide))) (fun _ => ?_)
        refine G_st (L := 89) (k := 3) (30, [some (.ref 0), some (.int (nI c)), some (.int (nI w))], [.int (nI w), .ref 14], qS sw gc I J) (q_hn _ _ _ _) rfl ?_
        refine G_callV (b := 14) (ci := 0) (as := [.int (nI w)]) (rest := []) rfl rfl rfl (q_lt (by decide)) (by decide) rfl rfl (Nat.le_of_ble_eq_true rfl) (GM_r (x_mayBeWorked hw) (congrArg q_b hm)) x_out_n ?_
        refine G_st (L := 89) (k := 0) (33, [some (.ref 0), some (.int (nI c)), some (.int (nI w))], [.int 1], qS sw gc I J) (q_hn _ _ _ _) rfl ?_
        refine G_if_eq 47 rfl rfl (fun h9 => absurd h9 (by decide)) (fun _ => ?_)
        refine G_st (L := 89) (k := 2) (38, [some (.ref 0), some (.int (nI c)), some (.int (nI w))], [.int (nI w), .ref 0], qS sw gc I J) (q_hn _ _ _ _) rfl ?_
        refine G_callV (b := 0) (ci := 8) (as := [.int (nI w)]) (rest := []) rfl rfl rfl (q_lt (by decide)) (by decide) rfl rfl (Nat.le_of_ble_eq_true rfl) (x_letToBestN hgc hg hw hb) x_out_n ?_
        refine G_st (L := 89) (k := 0) (41, [some (.ref 0), some (.int (nI c)), some (.int (nI w))], [.int 0], qS sw gc I J) (q_hn _ _ _ _) rfl ?_
        refine G_if_eq 47 rfl rfl (fun _ => ?_) (fun h9 => absurd h9 (by decide))
        refine G_st (L := 89) (k := 2) (19, [some (.ref 0), some (.int (nI c)), some (.int ((nI w) + 1))], [], qS sw gc I J) (q_hn _ _ _ _) rfl ?_
        rw [show (nI w) + 1 = nI (w + 1) from (q_addP rfl rfl)]
        exact ih (w + 1) c I hgc (by omega) (by omega)
      | some k =>
        have e1 : c + x_letC sw gc (n + 1) w I = (c + 1) + x_letC sw gc n (w + 1) (x_lt I k w) := by rw [x_letC, hm, hb]; simp only [cond_true]; omega
        have e2 : x_letI sw gc (n + 1) w I = x_letI sw gc n (w + 1) (x_lt I k w) := by rw [x_letI, hm, hb]; rfl
        rw [e1, e2]
        refine G_st (L := 89) (k := 2) (22, [some (.ref 0), some (.int (nI c)), some (.int (nI w))], [.int 30, .int (nI w)], qS sw gc I J) (q_hn _ _ _ _) rfl ?_
        refine G_icmp_ge 53 rfl rfl (fun h9 => absurd h9 (nI_ge (b := 30) (by omega) (by decide))) (fun _ => ?_)
        refine G_st (L := 89) (k := 3) (30, [some (.ref 0), some (.int (nI c)), some (.int (nI w))], [.int (nI w), .ref 14], qS sw gc I J) (q_hn _ _ _ _) rfl ?_
        refine G_callV (b := 14) (ci := 0) (as := [.int (nI w)]) (rest := []) rfl rfl rfl (q_lt (by decide)) (by decide) rfl rfl (Nat.le_of_ble_eq_true rfl) (GM_r (x_mayBeWorked hw) (congrArg q_b hm)) x_out_n ?_
        refine G_st (L := 89) (k := 0) (33, [some (.ref 0), some (.int (nI c)), some (.int (nI w))], [.int 1], qS sw gc I J) (q_hn _ _ _ _) rfl ?_
        refine G_if_eq 47 rfl rfl (fun h9 => absurd h9 (by decide)) (fun _ => ?_)
        refine G_st (L := 89) (k := 2) (38, [some (.ref 0), some (.int (nI c)), some (.int (nI w))], [.int (nI w), .ref 0], qS sw gc I J) (q_hn _ _ _ _) rfl ?_
        refine G_callV (b := 0) (ci := 8) (as := [.int (nI w)]) (rest := []) rfl rfl rfl (q_lt (by decide)) (by decide) rfl rfl (Nat.le_of_ble_eq_true rfl) (x_letToBest hgc hg hw hb) x_out_n ?_
        refine G_st (L := 89) (k := 0) (41, [some (.ref 0), some (.int (nI c)), some (.int (nI w))], [.int 1], qS sw gc (x_lt I k w) J) (q_hn _ _ _ _) rfl ?_
        refine G_if_eq 47 rfl rfl (fun h9 => absurd h9 (by decide)) (fun _ => ?_)
        refine G_st (L := 89) (k := 3) (19, [some (.ref 0), some (.int ((nI c) + 1)), some (.int ((nI w) + 1))], [], qS sw gc (x_lt I k w) J) (q_hn _ _ _ _) rfl ?_
        rw [show (nI c) + 1 = nI (c + 1) from (q_addP rfl rfl)]
        rw [show (nI w) + 1 = nI (w + 1) from (q_addP rfl rfl)]
        exact ih (w + 1) (c + 1) _ ((x_lt_gc I k w).trans hgc) (by omega) (by omega)
theorem x_letS {d : Nat} {sw : Bool} {gc : Nat} {I : Nat → Nat → Int32} {J : Nat → Nat → Int64} (hl : ¬ I 0 8 = 0) : GM (d + 3) 80 [.ref 0] (qS sw gc I J) (some (.int (-2))) (qS sw gc I J) := by
  refine GM_of (by decide) (Nat.le_refl _) (Nat.le_of_ble_eq_true rfl) trivial ?_
  refine G_st (L := 89) (k := 0) (0, [some (.ref 0), none, none], [], qS sw gc I J) (q_hn _ _ _ _) rfl ?_
  refine G_st (L := 89) (k := 2) (4, [some (.ref 0), none, none], [.int (I 0 8)], qS sw gc I J) (q_hn _ _ _ _) rfl ?_
  refine G_if_eq 10 rfl rfl (fun h9 => absurd h9 hl) (fun _ => ?_)
  refine G_st (L := 89) (k := 1) (9, [some (.ref 0), none, none], [.int (-2)], qS sw gc I J) (q_hn _ _ _ _) rfl ?_
  exact G_iret rfl rfl rfl rfl
theorem x_let {d : Nat} {sw : Bool} {gc : Nat} {I : Nat → Nat → Int32} {J : Nat → Nat → Int64} (hgc : I 0 6 = nI gc) (hg : gc ≤ 8) (hl : I 0 8 = 0) : GM (d + 3) 80 [.ref 0] (qS sw gc I J) (some (.int (nI (x_letC sw gc 30 0 (q_u I 0 8 1))))) (qS sw gc (x_letI sw gc 30 0 (q_u I 0 8 1)) J) := by
  refine GM_of (by decide) (Nat.le_refl _) (Nat.le_of_ble_eq_true rfl) trivial ?_
  refine G_st (L := 89) (k := 2) (4, [some (.ref 0), none, none], [.int (I 0 8)], qS sw gc I J) (q_hn _ _ _ _) rfl ?_
  refine G_if_eq 10 rfl rfl (fun _ => ?_) (fun h9 => absurd hl h9)
  refine G_st (L := 89) (k := 7) (19, [some (.ref 0), some (.int 0), some (.int 0)], [], qS sw gc (q_u I 0 8 1) J) (q_hn _ _ _ _) rfl ?_
  have e := x_let_loop (d := d) (sw := sw) (J := J) hg 30 0 0 (q_u I 0 8 1) hgc (by omega) (by omega)
  rw [Nat.zero_add] at e
  exact e
def x_ems : Nat → Nat → (Nat → Nat → Int32) → (Nat → Nat → Int32)
  | 0, _, I => I
  | n + 1, i, I => x_ems n (i + 1) (x_em I i)
def x_mo2 (I : Nat → Nat → Int32) : Nat → Nat → Int32 := q_u (q_u (q_u (x_free I 0) 0 7 0) 0 8 0) 0 9 ((I 0 9) + 1)
theorem x_em_0 (I : Nat → Nat → Int32) (k b : Nat) : x_em I k 0 b = I 0 b := by
  unfold x_em q_fil
  rw [q_un _ _ (by omega), q_un _ _ (by omega), q_un _ _ (by omega), if_neg (by omega)]
theorem x_month_loop {d : Nat} {sw : Bool} {gc : Nat} {J : Nat → Nat → Int64} (hg : gc ≤ 8) : ∀ (n i : Nat) (I : Nat → Nat → Int32), I 0 6 = nI gc → i + n = gc → G (d + 2) 81 (12, [some (.ref 0), some (.int (nI i)), none], [], qS sw gc I J) (some (.int (I 0 9 + 1))) (qS sw gc (x_mo2 (x_ems n i I)) J) := by
  intro n
  induction n with
  | zero =>
    intro i I hgc h
    obtain rfl : gc = i := by omega
    refine G_st (L := 89) (k := 3) (17, [some (.ref 0), some (.int (nI gc)), none], [.int (I 0 6), .int (nI gc)], qS sw gc I J) (q_hn _ _ _ _) rfl ?_
    rw [show I 0 6 = nI gc from hgc]
    refine G_icmp_ge 41 rfl rfl (fun _ => ?_) (fun h9 => absurd (nI_le (Nat.le_refl _) (by omega)) h9)
    refine G_st (L := 89) (k := 2) (45, [some (.ref 0), some (.int (nI gc)), none], [.ref 14], qS sw gc I J) (q_hn _ _ _ _) rfl ?_
    refine G_callV (b := 14) (ci := 0) (as := []) (rest := []) rfl rfl rfl (q_lt (by decide)) (by decide) rfl rfl (Nat.le_of_ble_eq_true rfl) x_freeAll x_out_n ?_
    refine G_st (L := 89) (k := 14) (72, [some (.ref 0), some (.int (nI gc)), none], [.int (((x_free I 0) 0 9) + 1)], qS sw gc (q_u (q_u (q_u (x_free I 0) 0 7 0) 0 8 0) 0 9 (((x_free I 0) 0 9) + 1)) J) (q_hn _ _ _ _) rfl ?_
    exact G_iret rfl rfl rfl rfl
  | succ n ih =>
    intro i I hgc h
    rw [x_ems, show I 0 9 = x_em I i 0 9 from (x_em_0 I i 9).symm]
    refine G_st (L := 89) (k := 3) (17, [some (.ref 0), some (.int (nI i)), none], [.int (I 0 6), .int (nI i)], qS sw gc I J) (q_hn _ _ _ _) rfl ?_
    rw [show I 0 6 = nI gc from hgc]
    refine G_icmp_ge 41 rfl rfl (fun h9 => absurd h9 (nI_ge (by omega) (by omega))) (fun _ => ?_)
    refine G_st (L := 89) (k := 3) (23, [some (.ref 0), some (.int (nI i)), none], [.long (Int32.toInt64 (nI i)), .ref 0], qS sw gc I J) (q_hn _ _ _ _) rfl ?_
    rw [show Int32.toInt64 (nI i) = lN i from (q_i2lP rfl (by omega))]
    refine G_callV (b := 0) (ci := 8) (as := [.long (lN i)]) (rest := []) rfl rfl rfl (q_lt (by decide)) (by decide) rfl rfl (Nat.le_of_ble_eq_true rfl) (x_gangAt hgc hg (by omega)) x_out_n ?_
    refine G_st (L := 89) (k := 4) (32, [some (.ref 0), some (.int (nI i)), some (.ref (2 * i + 89))], [.ref (2 * i + 89)], qS sw gc I J) (q_hn _ _ _ _) rfl ?_
    refine G_callV (b := 2 * i + 89) (ci := 1) (as := []) (rest := []) rfl rfl (q_shG (by omega)).1 (q_ltG (by omega)).1 (by decide) rfl rfl (Nat.le_of_ble_eq_true rfl) (x_endMonth (by omega) hg) x_out_n ?_
    refine G_st (L := 89) (k := 2) (12, [some (.ref 0), some (.int ((nI i) + 1)), some (.ref (2 * i + 89))], [], qS sw gc (x_em I i) J) (q_hn _ _ _ _) rfl ?_
    rw [show (nI i) + 1 = nI (i + 1) from (q_addP rfl rfl)]
    refine G_fg [some (.ref 0), some (.int (nI (i + 1))), none] (by repeat (first | exact trivial | refine ⟨rfl, ?_⟩)) ?_
    exact ih (i + 1) _ ((x_em_0 I i 6).trans hgc) (by omega)
theorem x_monthS {d : Nat} {sw : Bool} {gc : Nat} {I : Nat → Nat → Int32} {J : Nat → Nat → Int64} (hl : I 0 8 = 0) : GM (d + 2) 81 [.ref 0] (qS sw gc I J) (some (.int (-2))) (qS sw gc I J) := by
  refine GM_of (by decide) (Nat.le_refl _) (Nat.le_of_ble_eq_true rfl) trivial ?_
  refine G_st (L := 89) (k := 0) (0, [some (.ref 0), none, none], [], qS sw gc I J) (q_hn _ _ _ _) rfl ?_
  refine G_st (L := 89) (k := 2) (4, [some (.ref 0), none, none], [.int (I 0 8)], qS sw gc I J) (q_hn _ _ _ _) rfl ?_
  refine G_if_ne 10 rfl rfl (fun h9 => absurd hl h9) (fun _ => ?_)
  refine G_st (L := 89) (k := 1) (9, [some (.ref 0), none, none], [.int (-2)], qS sw gc I J) (q_hn _ _ _ _) rfl ?_
  exact G_iret rfl rfl rfl rfl
theorem x_month {d : Nat} {sw : Bool} {gc : Nat} {I : Nat → Nat → Int32} {J : Nat → Nat → Int64} (hgc : I 0 6 = nI gc) (hg : gc ≤ 8) (hl : ¬ I 0 8 = 0) : GM (d + 2) 81 [.ref 0] (qS sw gc I J) (some (.int (I 0 9 + 1))) (qS sw gc (x_mo2 (x_ems gc 0 I)) J) := by
  refine GM_of (by decide) (Nat.le_refl _) (Nat.le_of_ble_eq_true rfl) trivial ?_
  refine G_st (L := 89) (k := 2) (4, [some (.ref 0), none, none], [.int (I 0 8)], qS sw gc I J) (q_hn _ _ _ _) rfl ?_
  refine G_if_ne 10 rfl rfl (fun _ => ?_) (fun h9 => absurd h9 hl)
  refine G_st (L := 89) (k := 2) (12, [some (.ref 0), some (.int 0), none], [], qS sw gc I J) (q_hn _ _ _ _) rfl ?_
  exact x_month_loop hg gc 0 I hgc (by omega)
