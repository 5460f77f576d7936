theorem x_wallAt {d : Nat} {sw : Bool} {gc : Nat} {I : Nat → Nat → Int32} {J : Nat → Nat → Int64} {w : Nat} (hw : w < 30) : GM d 3 [.ref 14, .int (nI w)] (qS sw gc I J) (some (.ref (w + 16))) (qS sw gc I J) := by
  refine GM_of (by decide) (Nat.le_refl _) (Nat.le_of_ble_eq_true rfl) rfl ?_
  refine G_st (L := 89) (k := 0) (0, [some (.ref 14), some (.int (nI w))], [], qS sw gc I J) (q_hn _ _ _ _) rfl ?_
  refine G_st (L := 89) (k := 1) (1, [some (.ref 14), some (.int (nI w))], [.int (nI w)], qS sw gc I J) (q_hn _ _ _ _) rfl ?_
  refine G_if_lt 10 rfl rfl (fun h9 => absurd h9 (nI_nlt (b := 0) (by omega) (by omega))) (fun _ => ?_)
  refine G_st (L := 89) (k := 2) (7, [some (.ref 14), some (.int (nI w))], [.int 30, .int (nI w)], qS sw gc I J) (q_hn _ _ _ _) rfl ?_
  refine G_icmp_lt 14 rfl rfl (fun _ => ?_) (fun h9 => absurd (nI_lt (b := 30) (by omega) (by decide)) h9)
  refine G_st (L := 89) (k := 3) (19, [some (.ref 14), some (.int (nI w))], [.int (nI w), .ref 15], qS sw gc I J) (q_hn _ _ _ _) rfl ?_
  refine G_aald (i := 15) (n := 30) (t := 4) rfl rfl (by decide) (q_lt (by decide)) (vp_in_nI (by omega) (by decide)) ?_
  rw [q_clamp (n := w) (by omega)]
  rw [show q_r (qS sw gc I J) 15 w = some (w + 16) from @q_rfW sw gc w (by omega)]
  refine G_st (L := 89) (k := 0) (20, [some (.ref 14), some (.int (nI w))], [.ref (w + 16)], qS sw gc I J) (q_hn _ _ _ _) rfl ?_
  exact G_aret rfl rfl rfl rfl
theorem q_bad30 {x : Int32} (hx : x < 0 ∨ nI 30 ≤ x) (h : ¬ x < 0) : ¬ x < 30 := by
  rcases hx with h2 | h2
  · exact absurd h2 h
  · intro z
    rw [q_le_int] at h2
    rw [q_lt_int] at z
    have e1 : (30 : Int32).toInt = 30 := rfl
    have e2 : (nI 30).toInt = 30 := rfl
    omega
theorem x_wallAtN {d : Nat} {sw : Bool} {gc : Nat} {I : Nat → Nat → Int32} {J : Nat → Nat → Int64} {x : Int32} (hx : x < 0 ∨ nI 30 ≤ x) : GM d 3 [.ref 14, .int x] (qS sw gc I J) (some (.null)) (qS sw gc I J) := by
  refine GM_of (by decide) (Nat.le_refl _) (Nat.le_of_ble_eq_true rfl) rfl ?_
  refine G_st (L := 89) (k := 0) (0, [some (.ref 14), some (.int x)], [], qS sw gc I J) (q_hn _ _ _ _) rfl ?_
  refine G_st (L := 89) (k := 1) (1, [some (.ref 14), some (.int x)], [.int x], qS sw gc I J) (q_hn _ _ _ _) rfl ?_
  refine G_if_lt 10 rfl rfl (fun h1 => ?_) (fun h1 => ?_)
  · skip
    refine G_st (L := 89) (k := 2) (20, [some (.ref 14), some (.int x)], [.null], qS sw gc I J) (q_hn _ _ _ _) rfl ?_
    exact G_aret rfl rfl rfl rfl
  · skip
    refine G_st (L := 89) (k := 2) (7, [some (.ref 14), some (.int x)], [.int 30, .int x], qS sw gc I J) (q_hn _ _ _ _) rfl ?_
    refine G_icmp_lt 14 rfl rfl (fun h9 => absurd h9 (q_bad30 hx h1)) (fun _ => ?_)
    refine G_st (L := 89) (k := 2) (20, [some (.ref 14), some (.int x)], [.null], qS sw gc I J) (q_hn _ _ _ _) rfl ?_
    exact G_aret rfl rfl rfl rfl
def x_lo (I : Nat → Nat → Int32) (w : Nat) : Bool := !decide (I (w + 16) 2 = 0)
theorem x_isLoose {d : Nat} {sw : Bool} {gc : Nat} {I : Nat → Nat → Int32} {J : Nat → Nat → Int64} {w : Nat} (hw : w < 30) : GM (d + 1) 5 [.ref 14, .int (nI w)] (qS sw gc I J) (some (.int (q_b (x_lo I w)))) (qS sw gc I J) := by
  refine GM_of (by decide) (Nat.le_refl _) (Nat.le_of_ble_eq_true rfl) q_bn ?_
  refine G_st (L := 89) (k := 0) (0, [some (.ref 14), some (.int (nI w)), none], [], qS sw gc I J) (q_hn _ _ _ _) rfl ?_
  refine G_st (L := 89) (k := 2) (2, [some (.ref 14), some (.int (nI w)), none], [.int (nI w), .ref 14], qS sw gc I J) (q_hn _ _ _ _) rfl ?_
  refine G_callV (b := 14) (ci := 0) (as := [.int (nI w)]) (rest := []) rfl rfl rfl (q_lt (by decide)) (by decide) rfl rfl (Nat.le_of_ble_eq_true rfl) (x_wallAt (by omega)) (Nat.le_refl _) ?_
  refine G_st (L := 89) (k := 4) (11, [some (.ref 14), some (.int (nI w)), some (.ref (w + 16))], [.ref (w + 16)], qS sw gc I J) (q_hn _ _ _ _) rfl ?_
  refine G_get (ci := 7) (k := 2) (i := w + 16) rfl rfl (q_shW (by omega)) (q_ltW (by omega)) ?_
  refine G_st (L := 89) (k := 0) (14, [some (.ref 14), some (.int (nI w)), some (.ref (w + 16))], [.int (I (w + 16) 2)], qS sw gc I J) (q_hn _ _ _ _) rfl ?_
  refine G_if_eq 21 rfl rfl (fun h1 => ?_) (fun h1 => ?_)
  · skip
    refine G_st (L := 89) (k := 1) (22, [some (.ref 14), some (.int (nI w)), some (.ref (w + 16))], [.int 0], qS sw gc I J) (q_hn _ _ _ _) rfl ?_
    exact G_iret rfl rfl (by rw [x_lo, decide_eq_true h1]; rfl) rfl
  · skip
    refine G_st (L := 89) (k := 2) (22, [some (.ref 14), some (.int (nI w)), some (.ref (w + 16))], [.int 1], qS sw gc I J) (q_hn _ _ _ _) rfl ?_
    exact G_iret rfl rfl (by rw [x_lo, decide_eq_false h1]; rfl) rfl
def x_mayN (I : Nat → Nat → Int32) : Nat → Nat → Bool
  | 0, _ => true
  | n + 1, w => cond (Nat.ble 30 w) true (cond (x_lo I w) false (x_mayN I n (w + 6)))
def x_may (I : Nat → Nat → Int32) (w : Nat) : Bool := x_mayN I 6 w
theorem x_may_loop {d : Nat} {sw : Bool} {gc : Nat} {I : Nat → Nat → Int32} {J : Nat → Nat → Int64} {x : Int32} : ∀ (n u : Nat), u < 36 → 36 ≤ u + 6 * n → G (d + 2) 4 (12, [some (.ref 14), some (.int x), some (.int (nI u))], [], qS sw gc I J) (some (.int (q_b (x_mayN I n u)))) (qS sw gc I J) := by
  intro n
  induction n with
  | zero => intro u h1 h2; exact absurd h2 (by omega)
  | succ n ih =>
    intro u h1 h2
    by_cases hu : u < 30
    · have e1 : Nat.ble 30 u = false := by
        cases hb : Nat.ble 30 u with
        | true => exact absurd (Nat.le_of_ble_eq_true hb) (by omega)
        | false => rfl
      refine G_st (L := 89) (k := 2) (15, [some (.ref 14), some (.int x), some (.int (nI u))], [.int 30, .int (nI u)], qS sw gc I J) (q_hn _ _ _ _) rfl ?_
      refine G_icmp_ge 34 rfl rfl (fun h9 => absurd h9 (nI_ge (b := 30) (by omega) (by decide))) (fun _ => ?_)
      refine G_st (L := 89) (k := 2) (20, [some (.ref 14), some (.int x), some (.int (nI u))], [.int (nI u), .ref 14], qS sw gc I J) (q_hn _ _ _ _) rfl ?_
      refine G_callV (b := 14) (ci := 0) (as := [.int (nI u)]) (rest := []) rfl rfl rfl (q_lt (by decide)) (by decide) rfl rfl (Nat.le_of_ble_eq_true rfl) (x_isLoose (by omega)) (Nat.le_refl _) ?_
      refine G_st (L := 89) (k := 0) (23, [some (.ref 14), some (.int x), some (.int (nI u))], [.int (q_b (x_lo I u))], qS sw gc I J) (q_hn _ _ _ _) rfl ?_
      refine G_if_eq 28 rfl rfl (fun h1 => ?_) (fun h1 => ?_)
      · skip
        refine G_st (L := 89) (k := 2) (12, [some (.ref 14), some (.int x), some (.int ((nI u) + 6))], [], qS sw gc I J) (q_hn _ _ _ _) rfl ?_
        rw [show (nI u) + 6 = nI (u + 6) from (q_addP rfl rfl)]
        rw [x_mayN, e1, q_b0.mp h1]
        exact ih (u + 6) (by omega) (by omega)
      · skip
        refine G_st (L := 89) (k := 1) (27, [some (.ref 14), some (.int x), some (.int (nI u))], [.int 0], qS sw gc I J) (q_hn _ _ _ _) rfl ?_
        exact G_iret rfl rfl (by rw [x_mayN, e1, q_b1 h1]; rfl) rfl
    · have e1 : Nat.ble 30 u = true := Nat.ble_eq_true_of_le (by omega)
      refine G_st (L := 89) (k := 2) (15, [some (.ref 14), some (.int x), some (.int (nI u))], [.int 30, .int (nI u)], qS sw gc I J) (q_hn _ _ _ _) rfl ?_
      refine G_icmp_ge 34 rfl rfl (fun _ => ?_) (fun h9 => absurd (nI_le (a := 30) (by omega) (by omega)) h9)
      refine G_st (L := 89) (k := 1) (35, [some (.ref 14), some (.int x), some (.int (nI u))], [.int 1], qS sw gc I J) (q_hn _ _ _ _) rfl ?_
      exact G_iret rfl rfl (by rw [x_mayN, e1]; rfl) rfl
theorem x_mayBeWorked {d : Nat} {sw : Bool} {gc : Nat} {I : Nat → Nat → Int32} {J : Nat → Nat → Int64} {w : Nat} (hw : w < 30) : GM (d + 2) 4 [.ref 14, .int (nI w)] (qS sw gc I J) (some (.int (q_b (x_may I w)))) (qS sw gc I J) := by
  refine GM_of (by decide) (Nat.le_refl _) (Nat.le_of_ble_eq_true rfl) q_bn ?_
  refine G_st (L := 89) (k := 0) (0, [some (.ref 14), some (.int (nI w)), none], [], qS sw gc I J) (q_hn _ _ _ _) rfl ?_
  refine G_st (L := 89) (k := 2) (2, [some (.ref 14), some (.int (nI w)), none], [.int (nI w), .ref 14], qS sw gc I J) (q_hn _ _ _ _) rfl ?_
  refine G_callV (b := 14) (ci := 0) (as := [.int (nI w)]) (rest := []) rfl rfl rfl (q_lt (by decide)) (by decide) rfl rfl (Nat.le_of_ble_eq_true rfl) (x_wallAt (by omega)) (Nat.le_refl _) ?_
  refine G_st (L := 89) (k := 3) (12, [some (.ref 14), some (.int (nI w)), some (.int (nI w))], [], qS sw gc I J) (q_hn _ _ _ _) rfl ?_
  exact x_may_loop 6 w (by omega) (by omega)
theorem x_mayBeWorkedN {d : Nat} {sw : Bool} {gc : Nat} {I : Nat → Nat → Int32} {J : Nat → Nat → Int64} {x : Int32} (hx : x < 0 ∨ nI 30 ≤ x) : GM (d + 2) 4 [.ref 14, .int x] (qS sw gc I J) (some (.int 0)) (qS sw gc I J) := by
  refine GM_of (by decide) (Nat.le_refl _) (Nat.le_of_ble_eq_true rfl) rfl ?_
  refine G_st (L := 89) (k := 0) (0, [some (.ref 14), some (.int x), none], [], qS sw gc I J) (q_hn _ _ _ _) rfl ?_
  refine G_st (L := 89) (k := 2) (2, [some (.ref 14), some (.int x), none], [.int x, .ref 14], qS sw gc I J) (q_hn _ _ _ _) rfl ?_
  refine G_callV (b := 14) (ci := 0) (as := [.int x]) (rest := []) rfl rfl rfl (q_lt (by decide)) (by decide) rfl rfl (Nat.le_of_ble_eq_true rfl) (x_wallAtN hx) (Nat.le_refl _) ?_
  refine G_st (L := 89) (k := 2) (9, [some (.ref 14), some (.int x), none], [.int 0], qS sw gc I J) (q_hn _ _ _ _) rfl ?_
  exact G_iret rfl rfl rfl rfl
def x_loA (I : Nat → Nat → Int32) (w : Nat) (h : Int32) : Nat → Nat → Int32 := if h = (-4) then I else if (I (w + 16) 1) - (I (w + 6 + 16) 1) < h then I else q_u I (w + 6 + 16) 2 1
theorem x_loosenAbove {d : Nat} {sw : Bool} {gc : Nat} {I : Nat → Nat → Int32} {J : Nat → Nat → Int64} {w : Nat} {h : Int32} (hw : w < 24) : GM (d + 1) 6 [.ref 14, .int (nI w), .int h] (qS sw gc I J) (none) (qS sw gc (x_loA I w h) J) := by
  refine GM_of (by decide) (Nat.le_refl _) (Nat.le_of_ble_eq_true rfl) trivial ?_
  refine G_st (L := 89) (k := 0) (0, [some (.ref 14), some (.int (nI w)), some (.int h), none, none], [], qS sw gc I J) (q_hn _ _ _ _) rfl ?_
  refine G_st (L := 89) (k := 2) (2, [some (.ref 14), some (.int (nI w)), some (.int h), none, none], [.int (nI w), .ref 14], qS sw gc I J) (q_hn _ _ _ _) rfl ?_
  refine G_callV (b := 14) (ci := 0) (as := [.int (nI w)]) (rest := []) rfl rfl rfl (q_lt (by decide)) (by decide) rfl rfl (Nat.le_of_ble_eq_true rfl) (x_wallAt (by omega)) (Nat.le_refl _) ?_
  refine G_st (L := 89) (k := 5) (11, [some (.ref 14), some (.int (nI w)), some (.int h), some (.ref (w + 16)), none], [.int ((nI w) + 6), .ref 14], qS sw gc I J) (q_hn _ _ _ _) rfl ?_
  rw [show (nI w) + 6 = nI (w + 6) from (q_addP rfl rfl)]
  refine G_callV (b := 14) (ci := 0) (as := [.int (nI (w + 6))]) (rest := []) rfl rfl rfl (q_lt (by decide)) (by decide) rfl rfl (Nat.le_of_ble_eq_true rfl) (x_wallAt (by omega)) (Nat.le_refl _) ?_
  refine G_st (L := 89) (k := 7) (28, [some (.ref 14), some (.int (nI w)), some (.int h), some (.ref (w + 16)), some (.ref ((w + 6) + 16))], [.int (-4), .int h], qS sw gc I J) (q_hn _ _ _ _) rfl ?_
  refine G_icmp_ne 32 rfl rfl (fun h1 => ?_) (fun h1 => ?_)
  · skip
    refine G_st (L := 89) (k := 1) (33, [some (.ref 14), some (.int (nI w)), some (.int h), some (.ref (w + 16)), some (.ref ((w + 6) + 16))], [.ref (w + 16)], qS sw gc I J) (q_hn _ _ _ _) rfl ?_
    refine G_get (ci := 7) (k := 1) (i := w + 16) rfl rfl (q_shW (by omega)) (q_ltW (by omega)) ?_
    refine G_st (L := 89) (k := 1) (38, [some (.ref 14), some (.int (nI w)), some (.int h), some (.ref (w + 16)), some (.ref ((w + 6) + 16))], [.ref ((w + 6) + 16), .int (I (w + 16) 1)], qS sw gc I J) (q_hn _ _ _ _) rfl ?_
    refine G_get (ci := 7) (k := 1) (i := (w + 6) + 16) rfl rfl (q_shW (by omega)) (q_ltW (by omega)) ?_
    refine G_st (L := 89) (k := 2) (43, [some (.ref 14), some (.int (nI w)), some (.int h), some (.ref (w + 16)), some (.ref ((w + 6) + 16))], [.int h, .int ((I (w + 16) 1) - (I ((w + 6) + 16) 1))], qS sw gc I J) (q_hn _ _ _ _) rfl ?_
    refine G_icmp_lt 52 rfl rfl (fun h2 => ?_) (fun h2 => ?_)
    · skip
      exact G_ret rfl rfl rfl (by rw [x_loA, if_neg h1, if_pos h2])
    · skip
      refine G_st (L := 89) (k := 2) (49, [some (.ref 14), some (.int (nI w)), some (.int h), some (.ref (w + 16)), some (.ref ((w + 6) + 16))], [.int 1, .ref ((w + 6) + 16)], qS sw gc I J) (q_hn _ _ _ _) rfl ?_
      refine G_put (ci := 7) (k := 2) (i := (w + 6) + 16) (M1 := qS sw gc (q_u I ((w + 6) + 16) 2 1) J) rfl rfl (q_shW (by omega)) (q_ltW (by omega)) rfl rfl rfl ?_
      refine G_st (L := 89) (k := 0) (52, [some (.ref 14), some (.int (nI w)), some (.int h), some (.ref (w + 16)), some (.ref ((w + 6) + 16))], [], qS sw gc (q_u I ((w + 6) + 16) 2 1) J) (q_hn _ _ _ _) rfl ?_
      exact G_ret rfl rfl rfl (by rw [x_loA, if_neg h1, if_neg h2])
  · skip
    exact G_ret rfl rfl rfl (by rw [x_loA, if_pos h1])
theorem x_loosenAboveH {d : Nat} {sw : Bool} {gc : Nat} {I : Nat → Nat → Int32} {J : Nat → Nat → Int64} {w : Nat} {h : Int32} (hw : w < 30) (hw2 : 24 ≤ w) : GM (d + 1) 6 [.ref 14, .int (nI w), .int h] (qS sw gc I J) (none) (qS sw gc I J) := by
  refine GM_of (by decide) (Nat.le_refl _) (Nat.le_of_ble_eq_true rfl) trivial ?_
  refine G_st (L := 89) (k := 0) (0, [some (.ref 14), some (.int (nI w)), some (.int h), none, none], [], qS sw gc I J) (q_hn _ _ _ _) rfl ?_
  refine G_st (L := 89) (k := 2) (2, [some (.ref 14), some (.int (nI w)), some (.int h), none, none], [.int (nI w), .ref 14], qS sw gc I J) (q_hn _ _ _ _) rfl ?_
  refine G_callV (b := 14) (ci := 0) (as := [.int (nI w)]) (rest := []) rfl rfl rfl (q_lt (by decide)) (by decide) rfl rfl (Nat.le_of_ble_eq_true rfl) (x_wallAt (by omega)) (Nat.le_refl _) ?_
  refine G_st (L := 89) (k := 5) (11, [some (.ref 14), some (.int (nI w)), some (.int h), some (.ref (w + 16)), none], [.int ((nI w) + 6), .ref 14], qS sw gc I J) (q_hn _ _ _ _) rfl ?_
  rw [show (nI w) + 6 = nI (w + 6) from (q_addP rfl rfl)]
  refine G_callV (b := 14) (ci := 0) (as := [.int (nI (w + 6))]) (rest := []) rfl rfl rfl (q_lt (by decide)) (by decide) rfl rfl (Nat.le_of_ble_eq_true rfl) (x_wallAtN (Or.inr (nI_le (a := 30) (by omega) (by omega)))) (Nat.le_refl _) ?_
  refine G_st (L := 89) (k := 5) (31, [some (.ref 14), some (.int (nI w)), some (.int h), some (.ref (w + 16)), some (.null)], [], qS sw gc I J) (q_hn _ _ _ _) rfl ?_
  exact G_ret rfl rfl rfl rfl
def x_free (I : Nat → Nat → Int32) (i : Nat) : Nat → Nat → Int32 := fun a b => if i + 16 ≤ a ∧ a < 46 ∧ b = 3 then -4 else I a b
theorem x_free_step (I : Nat → Nat → Int32) {i : Nat} (h : i < 30) : x_free (q_u I (i + 16) 3 (-4)) (i + 1) = x_free I i := by
  funext a b
  unfold x_free q_u
  by_cases h1 : a = i + 16 ∧ b = 3
  · rw [if_pos h1, if_pos (show i + 16 ≤ a ∧ a < 46 ∧ b = 3 by omega)]; split <;> rfl
  · rw [if_neg h1]
    by_cases h2 : i + 1 + 16 ≤ a ∧ a < 46 ∧ b = 3
    · rw [if_pos h2, if_pos (by omega)]
    · rw [if_neg h2, if_neg (by omega)]
theorem x_free_end (I : Nat → Nat → Int32) : x_free I 30 = I := by
  funext a b
  unfold x_free
  rw [if_neg (by omega)]
theorem x_free_loop {d : Nat} {sw : Bool} {gc : Nat} {J : Nat → Nat → Int64} : ∀ (n i : Nat) (I : Nat → Nat → Int32), i + n = 30 → G (d + 1) 7 (2, [some (.ref 14), some (.int (nI i)), none], [], qS sw gc I J) none (qS sw gc (x_free I i) J) := by
  intro n
  induction n with
  | zero =>
    intro i I h
    obtain rfl : i = 30 := by omega
    rw [x_free_end]
    refine G_st (L := 89) (k := 2) (5, [some (.ref 14), some (.int 30), none], [.int 30, .int 30], qS sw gc I J) (q_hn _ _ _ _) rfl ?_
    refine G_icmp_ge 30 rfl rfl (fun _ => ?_) (fun h9 => absurd h9 (by decide))
    exact G_ret rfl rfl rfl rfl
  | succ n ih =>
    intro i I h
    rw [← x_free_step I (by omega)]
    refine G_st (L := 89) (k := 2) (5, [some (.ref 14), some (.int (nI i)), none], [.int 30, .int (nI i)], qS sw gc I J) (q_hn _ _ _ _) rfl ?_
    refine G_icmp_ge 30 rfl rfl (fun h9 => absurd h9 (nI_ge (b := 30) (by omega) (by decide))) (fun _ => ?_)
    refine G_st (L := 89) (k := 2) (10, [some (.ref 14), some (.int (nI i)), none], [.int (nI i), .ref 14], qS sw gc I J) (q_hn _ _ _ _) rfl ?_
    refine G_callV (b := 14) (ci := 0) (as := [.int (nI i)]) (rest := []) rfl rfl rfl (q_lt (by decide)) (by decide) rfl rfl (Nat.le_of_ble_eq_true rfl) (x_wallAt (by omega)) (Nat.le_refl _) ?_
    refine G_st (L := 89) (k := 5) (21, [some (.ref 14), some (.int (nI i)), some (.ref (i + 16))], [.int (-4), .ref (i + 16)], qS sw gc I J) (q_hn _ _ _ _) rfl ?_
    refine G_put (ci := 7) (k := 3) (i := i + 16) (M1 := qS sw gc (q_u I (i + 16) 3 (-4)) J) rfl rfl (q_shW (by omega)) (q_ltW (by omega)) rfl rfl rfl ?_
    refine G_st (L := 89) (k := 2) (2, [some (.ref 14), some (.int ((nI i) + 1)), some (.ref (i + 16))], [], qS sw gc (q_u I (i + 16) 3 (-4)) J) (q_hn _ _ _ _) rfl ?_
    rw [show (nI i) + 1 = nI (i + 1) from (q_addP rfl rfl)]
    refine G_fg [some (.ref 14), some (.int (nI (i + 1))), none] (by repeat (first | exact trivial | refine ⟨rfl, ?_⟩)) ?_
    exact ih (i + 1) _ (by omega)
theorem x_freeAll {d : Nat} {sw : Bool} {gc : Nat} {I : Nat → Nat → Int32} {J : Nat → Nat → Int64} : GM (d + 1) 7 [.ref 14] (qS sw gc I J) (none) (qS sw gc (x_free I 0) J) := by
  refine GM_of (by decide) (Nat.le_refl _) (Nat.le_of_ble_eq_true rfl) trivial ?_
  refine G_st (L := 89) (k := 0) (0, [some (.ref 14), none, none], [], qS sw gc I J) (q_hn _ _ _ _) rfl ?_
  refine G_st (L := 89) (k := 2) (2, [some (.ref 14), some (.int 0), none], [], qS sw gc I J) (q_hn _ _ _ _) rfl ?_
  exact x_free_loop 30 0 I rfl
def q_cnt (p : Nat → Bool) : Nat → Nat → Nat
  | 0, _ => 0
  | n + 1, i => (cond (p i) 1 0) + q_cnt p n (i + 1)
def x_heldP (I : Nat → Nat → Int32) (w : Nat) : Bool := !decide (I (w + 16) 3 = (-4))
theorem x_heldWalls_loop {d : Nat} {sw : Bool} {gc : Nat} {I : Nat → Nat → Int32} {J : Nat → Nat → Int64} : ∀ (n i c : Nat), i + n = 30 → c + n < 1000 → G (d + 1) 8 (4, [some (.ref 14), some (.int (nI c)), some (.int (nI i)), none], [], qS sw gc I J) (some (.int (nI (c + q_cnt (x_heldP I) n i)))) (qS sw gc I J) := by
  intro n
  induction n with
  | zero =>
    intro i c h h2
    obtain rfl : i = 30 := by omega
    refine G_st (L := 89) (k := 2) (7, [some (.ref 14), some (.int (nI c)), some (.int 30), none], [.int 30, .int 30], qS sw gc I J) (q_hn _ _ _ _) rfl ?_
    refine G_icmp_ge 38 rfl rfl (fun _ => ?_) (fun h9 => absurd h9 (by decide))
    refine G_st (L := 89) (k := 1) (39, [some (.ref 14), some (.int (nI c)), some (.int 30), none], [.int (nI c)], qS sw gc I J) (q_hn _ _ _ _) rfl ?_
    exact G_iret rfl rfl rfl rfl
  | succ n ih =>
    intro i c h h2
    refine G_st (L := 89) (k := 2) (7, [some (.ref 14), some (.int (nI c)), some (.int (nI i)), none], [.int 30, .int (nI i)], qS sw gc I J) (q_hn _ _ _ _) rfl ?_
    refine G_icmp_ge 38 rfl rfl (fun h9 => absurd h9 (nI_ge (b := 30) (by omega) (by decide))) (fun _ => ?_)
    refine G_st (L := 89) (k := 2) (12, [some (.ref 14), some (.int (nI c)), some (.int (nI i)), none], [.int (nI i), .ref 14], qS sw gc I J) (q_hn _ _ _ _) rfl ?_
    refine G_callV (b := 14) (ci := 0) (as := [.int (nI i)]) (rest := []) rfl rfl rfl (q_lt (by decide)) (by decide) rfl rfl (Nat.le_of_ble_eq_true rfl) (x_wallAt (by omega)) (Nat.le_refl _) ?_
    refine G_st (L := 89) (k := 4) (21, [some (.ref 14), some (.int (nI c)), some (.int (nI i)), some (.ref (i + 16))], [.ref (i + 16)], qS sw gc I J) (q_hn _ _ _ _) rfl ?_
    refine G_get (ci := 7) (k := 3) (i := i + 16) rfl rfl (q_shW (by omega)) (q_ltW (by omega)) ?_
    refine G_st (L := 89) (k := 1) (26, [some (.ref 14), some (.int (nI c)), some (.int (nI i)), some (.ref (i + 16))], [.int (-4), .int (I (i + 16) 3)], qS sw gc I J) (q_hn _ _ _ _) rfl ?_
    refine G_icmp_eq 32 rfl rfl (fun h1 => ?_) (fun h1 => ?_)
    · skip
      refine G_st (L := 89) (k := 2) (4, [some (.ref 14), some (.int (nI c)), some (.int ((nI i) + 1)), some (.ref (i + 16))], [], qS sw gc I J) (q_hn _ _ _ _) rfl ?_
      rw [show (nI i) + 1 = nI (i + 1) from (q_addP rfl rfl)]
      refine G_fg [some (.ref 14), some (.int (nI c)), some (.int (nI (i + 1))), none] (by repeat (first | exact trivial | refine ⟨rfl, ?_⟩)) ?_
      have e9 : x_heldP I i = false := (by unfold x_heldP; rw [decide_eq_true h1]; rfl)
      rw [show c + q_cnt (x_heldP I) (n + 1) i = c + q_cnt (x_heldP I) n (i + 1) by rw [q_cnt, e9]; simp only [cond_false]; omega]
      exact ih (i + 1) c (by omega) (by omega)
    · skip
      refine G_st (L := 89) (k := 3) (4, [some (.ref 14), some (.int ((nI c) + 1)), some (.int ((nI i) + 1)), some (.ref (i + 16))], [], qS sw gc I J) (q_hn _ _ _ _) rfl ?_
      rw [show (nI c) + 1 = nI (c + 1) from (q_addP rfl rfl)]
      rw [show (nI i) + 1 = nI (i + 1) from (q_addP rfl rfl)]
      refine G_fg [some (.ref 14), some (.int (nI (c + 1))), some (.int (nI (i + 1))), none] (by repeat (first | exact trivial | refine ⟨rfl, ?_⟩)) ?_
      have e9 : x_heldP I i = true := (by unfold x_heldP; rw [decide_eq_false h1]; rfl)
      rw [show c + q_cnt (x_heldP I) (n + 1) i = (c + 1) + q_cnt (x_heldP I) n (i + 1) by rw [q_cnt, e9]; simp only [cond_true]; omega]
      exact ih (i + 1) (c + 1) (by omega) (by omega)
theorem x_heldWalls {d : Nat} {sw : Bool} {gc : Nat} {I : Nat → Nat → Int32} {J : Nat → Nat → Int64} : GM (d + 1) 8 [.ref 14] (qS sw gc I J) (some (.int (nI (q_cnt (x_heldP I) 30 0)))) (qS sw gc I J) := by
  refine GM_of (by decide) (Nat.le_refl _) (Nat.le_of_ble_eq_true rfl) trivial ?_
  refine G_st (L := 89) (k := 0) (0, [some (.ref 14), none, none, none], [], qS sw gc I J) (q_hn _ _ _ _) rfl ?_
  refine G_st (L := 89) (k := 4) (4, [some (.ref 14), some (.int 0), some (.int 0), none], [], qS sw gc I J) (q_hn _ _ _ _) rfl ?_
  have e := x_heldWalls_loop (d := d) (sw := sw) (gc := gc) (I := I) (J := J) 30 0 0 rfl (by decide)
  rw [Nat.zero_add] at e
  exact e
theorem x_looseWalls_loop {d : Nat} {sw : Bool} {gc : Nat} {I : Nat → Nat → Int32} {J : Nat → Nat → Int64} : ∀ (n i c : Nat), i + n = 30 → c + n < 1000 → G (d + 2) 9 (4, [some (.ref 14), some (.int (nI c)), some (.int (nI i))], [], qS sw gc I J) (some (.int (nI (c + q_cnt (x_lo I) n i)))) (qS sw gc I J) := by
  intro n
  induction n with
  | zero =>
    intro i c h h2
    obtain rfl : i = 30 := by omega
    refine G_st (L := 89) (k := 2) (7, [some (.ref 14), some (.int (nI c)), some (.int 30)], [.int 30, .int 30], qS sw gc I J) (q_hn _ _ _ _) rfl ?_
    refine G_icmp_ge 27 rfl rfl (fun _ => ?_) (fun h9 => absurd h9 (by decide))
    refine G_st (L := 89) (k := 1) (28, [some (.ref 14), some (.int (nI c)), some (.int 30)], [.int (nI c)], qS sw gc I J) (q_hn _ _ _ _) rfl ?_
    exact G_iret rfl rfl rfl rfl
  | succ n ih =>
    intro i c h h2
    refine G_st (L := 89) (k := 2) (7, [some (.ref 14), some (.int (nI c)), some (.int (nI i))], [.int 30, .int (nI i)], qS sw gc I J) (q_hn _ _ _ _) rfl ?_
    refine G_icmp_ge 27 rfl rfl (fun h9 => absurd h9 (nI_ge (b := 30) (by omega) (by decide))) (fun _ => ?_)
    refine G_st (L := 89) (k := 2) (12, [some (.ref 14), some (.int (nI c)), some (.int (nI i))], [.int (nI i), .ref 14], qS sw gc I J) (q_hn _ _ _ _) rfl ?_
    refine G_callV (b := 14) (ci := 0) (as := [.int (nI i)]) (rest := []) rfl rfl rfl (q_lt (by decide)) (by decide) rfl rfl (Nat.le_of_ble_eq_true rfl) (x_isLoose (by omega)) (Nat.le_refl _) ?_
    refine G_st (L := 89) (k := 0) (15, [some (.ref 14), some (.int (nI c)), some (.int (nI i))], [.int (q_b (x_lo I i))], qS sw gc I J) (q_hn _ _ _ _) rfl ?_
    refine G_if_eq 21 rfl rfl (fun h1 => ?_) (fun h1 => ?_)
    · skip
      refine G_st (L := 89) (k := 2) (4, [some (.ref 14), some (.int (nI c)), some (.int ((nI i) + 1))], [], qS sw gc I J) (q_hn _ _ _ _) rfl ?_
      rw [show (nI i) + 1 = nI (i + 1) from (q_addP rfl rfl)]
      have e9 : x_lo I i = false := (q_b0.mp h1)
      rw [show c + q_cnt (x_lo I) (n + 1) i = c + q_cnt (x_lo I) n (i + 1) by rw [q_cnt, e9]; simp only [cond_false]; omega]
      exact ih (i + 1) c (by omega) (by omega)
    · skip
      refine G_st (L := 89) (k := 3) (4, [some (.ref 14), some (.int ((nI c) + 1)), some (.int ((nI i) + 1))], [], qS sw gc I J) (q_hn _ _ _ _) rfl ?_
      rw [show (nI c) + 1 = nI (c + 1) from (q_addP rfl rfl)]
      rw [show (nI i) + 1 = nI (i + 1) from (q_addP rfl rfl)]
      have e9 : x_lo I i = true := (q_b1 h1)
      rw [show c + q_cnt (x_lo I) (n + 1) i = (c + 1) + q_cnt (x_lo I) n (i + 1) by rw [q_cnt, e9]; simp only [cond_true]; omega]
      exact ih (i + 1) (c + 1) (by omega) (by omega)
theorem x_looseWalls {d : Nat} {sw : Bool} {gc : Nat} {I : Nat → Nat → Int32} {J : Nat → Nat → Int64} : GM (d + 2) 9 [.ref 14] (qS sw gc I J) (some (.int (nI (q_cnt (x_lo I) 30 0)))) (qS sw gc I J) := by
  refine GM_of (by decide) (Nat.le_refl _) (Nat.le_of_ble_eq_true rfl) trivial ?_
  refine G_st (L := 89) (k := 0) (0, [some (.ref 14), none, none], [], qS sw gc I J) (q_hn _ _ _ _) rfl ?_
  refine G_st (L := 89) (k := 4) (4, [some (.ref 14), some (.int 0), some (.int 0)], [], qS sw gc I J) (q_hn _ _ _ _) rfl ?_
  have e := x_looseWalls_loop (d := d) (sw := sw) (gc := gc) (I := I) (J := J) 30 0 0 rfl (by decide)
  rw [Nat.zero_add] at e
  exact e
