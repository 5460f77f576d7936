def r_mt (I : Nat → Nat → Int32) (w k : Nat) : Bool := !decide (I 81 (30 * k + w) = (-4)) && (decide (I 77 k = (-4)) && (decide (I 64 0 = (-4)) || !decide (I 64 0 < I 81 (30 * k + w))))
def r_bt (I : Nat → Nat → Int32) (w k j : Nat) : Bool := decide (I 81 (30 * k + w) < I 81 (30 * j + w)) || (decide (I 81 (30 * k + w) = I 81 (30 * j + w)) && !decide (I 76 j ≤ I 76 k))
def r_bst (I : Nat → Nat → Int32) (gc w : Nat) : Option Nat := q_bs (r_mt I w) (r_bt I w) gc 0 none
def r_lt (I : Nat → Nat → Int32) (k w : Nat) : Nat → Nat → Int32 := q_u (q_u (q_u (q_u I 73 w (nI k)) 77 k (nI w)) 78 k (I 81 (30 * k + w))) 76 k (I 76 k + 1)
def r_letI (gc : Nat) : Nat → Nat → (Nat → Nat → Int32) → (Nat → Nat → Int32)
  | 0, _, I => I
  | n + 1, w, I => match cond (r_may I w) (r_bst I gc w) none with
    | none => r_letI gc n (w + 1) I
    | some k => r_letI gc n (w + 1) (r_lt I k w)
def r_letC (gc : Nat) : Nat → Nat → (Nat → Nat → Int32) → Nat
  | 0, _, I => 0
  | n + 1, w, I => match cond (r_may I w) (r_bst I gc w) none with
    | none => r_letC gc n (w + 1) I
    | some k => r_letC gc n (w + 1) (r_lt I k w) + 1
set_option maxRecDepth 8000 in
theorem r_lb_loop {d : Nat} {sw : Bool} {gc : Nat} {I : Nat → Nat → Int32} {J : Nat → Nat → Int64} {w c : Nat} (hmg : I 62 20 = nI gc) (hg : gc ≤ 8) (hw : w < 30) (hmay : r_may I w = true) {r : Int32} {Iz : Nat → Nat → Int32} (g : ∀ b : Option Nat, x_okO gc b → b = r_bst I gc w → G (d + 1) 127 (187, [some (.ref 62), some (.int (nI c)), some (.int (nI w)), some (.int (x_oi b)), none, none, none, none], [], qS sw gc I J) (some (.int r)) (qS sw gc Iz J)) : ∀ (n i : Nat) (b : Option Nat), i + n = gc → x_okO gc b → q_bs (r_mt I w) (r_bt I w) n i b = r_bst I gc w → G (d + 1) 127 (31, [some (.ref 62), some (.int (nI c)), some (.int (nI w)), some (.int (x_oi b)), some (.int (nI i)), none, none, none], [], qS sw gc I J) (some (.int r)) (qS sw gc Iz J) := by
  intro n
  induction n with
  | zero =>
    intro i b h hb he
    obtain rfl : i = gc := by omega
    refine G_st (L := 89) (k := 3) (37, [some (.ref 62), some (.int (nI c)), some (.int (nI w)), some (.int (x_oi b)), some (.int (nI i)), none, none, none], [.int (I 62 20), .int (nI i)], qS sw i I J) (q_hn _ _ _ _) rfl ?_
    rw [show I 62 20 = nI i from hmg]
    refine G_icmp_ge 187 rfl rfl (fun _ => ?_) (fun h9 => absurd (nI_le (Nat.le_refl _) (by omega)) h9)
    refine G_fg [some (.ref 62), some (.int (nI c)), some (.int (nI w)), some (.int (x_oi b)), none, none, none, none] (by repeat (first | exact trivial | refine ⟨rfl, ?_⟩)) ?_
    exact g b hb he
  | succ n ih =>
    intro i b h hb he
    rw [q_bs] at he
    cases b with
    | none =>
      refine G_st (L := 89) (k := 3) (37, [some (.ref 62), some (.int (nI c)), some (.int (nI w)), some (.int (-4)), some (.int (nI i)), none, none, none], [.int (I 62 20), .int (nI i)], qS sw gc I J) (q_hn _ _ _ _) rfl ?_
      rw [show I 62 20 = nI gc from hmg]
      refine G_icmp_ge 187 rfl rfl (fun h9 => absurd h9 (nI_ge (by omega) (by omega))) (fun _ => ?_)
      refine G_st (L := 89) (k := 2) (42, [some (.ref 62), some (.int (nI c)), some (.int (nI w)), some (.int (-4)), some (.int (nI i)), none, none, none], [.int (nI w), .ref 62], qS sw gc I J) (q_hn _ _ _ _) rfl ?_
      refine G_callV (b := 62) (ci := 9) (as := [.int (nI w)]) (rest := []) rfl rfl rfl (q_lt (by decide)) (by decide) rfl rfl (Nat.le_of_ble_eq_true rfl) (GM_r (r2 := 1) (r_mayBeWorked hw) (by rw [hmay]; rfl)) (Nat.le_refl _) ?_
      refine G_st (L := 89) (k := 0) (45, [some (.ref 62), some (.int (nI c)), some (.int (nI w)), some (.int (-4)), some (.int (nI i)), none, none, none], [.int 1], qS sw gc I J) (q_hn _ _ _ _) rfl ?_
      refine G_if_eq 187 rfl rfl (fun h9 => absurd h9 (by decide)) (fun _ => ?_)
      refine G_st (L := 89) (k := 7) (59, [some (.ref 62), some (.int (nI c)), some (.int (nI w)), some (.int (-4)), some (.int (nI i)), none, none, none], [.int ((30 * (nI i)) + (nI w)), .ref 81], qS sw gc I J) (q_hn _ _ _ _) rfl ?_
      rw [show (30 * (nI i)) + (nI w) = nI (30 * i + w) from (q_addP (q_mulP rfl rfl) rfl)]
      refine G_iald (i := 81) (n := 240) rfl rfl (q_lt (by decide)) (vp_in_nI (by omega) (by decide)) ?_
      rw [q_clamp (n := 30 * i + w) (by omega)]
      refine G_st (L := 89) (k := 3) (66, [some (.ref 62), some (.int (nI c)), some (.int (nI w)), some (.int (-4)), some (.int (nI i)), some (.int (I 81 (30 * i + w))), none, none], [.int (-4), .int (I 81 (30 * i + w))], qS sw gc I J) (q_hn _ _ _ _) rfl ?_
      refine G_icmp_eq 107 rfl rfl (fun h11 => ?_) (fun h11 => ?_)
      · skip
        refine G_st (L := 89) (k := 3) (112, [some (.ref 62), some (.int (nI c)), some (.int (nI w)), some (.int (-4)), some (.int (nI i)), some (.int (I 81 (30 * i + w))), some (.int 0), none], [.int 0], qS sw gc I J) (q_hn _ _ _ _) rfl ?_
        refine G_if_eq 181 rfl rfl (fun _ => ?_) (fun h9 => absurd h9 (by decide))
        refine G_st (L := 89) (k := 2) (31, [some (.ref 62), some (.int (nI c)), some (.int (nI w)), some (.int (-4)), some (.int ((nI i) + 1)), some (.int (I 81 (30 * i + w))), some (.int 0), none], [], qS sw gc I J) (q_hn _ _ _ _) rfl ?_
        rw [show (nI i) + 1 = nI (i + 1) from (q_addP rfl rfl)]
        refine G_fg [some (.ref 62), some (.int (nI c)), some (.int (nI w)), some (.int (-4)), some (.int (nI (i + 1))), none, none, none] (by repeat (first | exact trivial | refine ⟨rfl, ?_⟩)) ?_
        have e9 : (r_mt I w i && q_bto (r_bt I w i) none) = false := by
          show (r_mt I w i && true) = _
          rw [r_mt, decide_eq_true h11]
          rfl
        rw [e9] at he
        exact ih (i + 1) none (by omega) hb he
      · skip
        refine G_st (L := 89) (k := 3) (75, [some (.ref 62), some (.int (nI c)), some (.int (nI w)), some (.int (-4)), some (.int (nI i)), some (.int (I 81 (30 * i + w))), none, none], [.int (nI i), .ref 77], qS sw gc I J) (q_hn _ _ _ _) rfl ?_
        refine G_iald (i := 77) (n := 8) rfl rfl (q_lt (by decide)) (vp_in_nI (by omega) (by decide)) ?_
        rw [q_clamp (n := i) (by omega)]
        refine G_st (L := 89) (k := 1) (78, [some (.ref 62), some (.int (nI c)), some (.int (nI w)), some (.int (-4)), some (.int (nI i)), some (.int (I 81 (30 * i + w))), none, none], [.int (-4), .int (I 77 i)], qS sw gc I J) (q_hn _ _ _ _) rfl ?_
        refine G_icmp_ne 107 rfl rfl (fun h12 => ?_) (fun h12 => ?_)
        · skip
          refine G_st (L := 89) (k := 3) (112, [some (.ref 62), some (.int (nI c)), some (.int (nI w)), some (.int (-4)), some (.int (nI i)), some (.int (I 81 (30 * i + w))), some (.int 0), none], [.int 0], qS sw gc I J) (q_hn _ _ _ _) rfl ?_
          refine G_if_eq 181 rfl rfl (fun _ => ?_) (fun h9 => absurd h9 (by decide))
          refine G_st (L := 89) (k := 2) (31, [some (.ref 62), some (.int (nI c)), some (.int (nI w)), some (.int (-4)), some (.int ((nI i) + 1)), some (.int (I 81 (30 * i + w))), some (.int 0), none], [], qS sw gc I J) (q_hn _ _ _ _) rfl ?_
          rw [show (nI i) + 1 = nI (i + 1) from (q_addP rfl rfl)]
          refine G_fg [some (.ref 62), some (.int (nI c)), some (.int (nI w)), some (.int (-4)), some (.int (nI (i + 1))), none, none, none] (by repeat (first | exact trivial | refine ⟨rfl, ?_⟩)) ?_
          have e9 : (r_mt I w i && q_bto (r_bt I w i) none) = false := by
            show (r_mt I w i && true) = _
            rw [r_mt, decide_eq_false h11, decide_eq_false h12]
            rfl
          rw [e9] at he
          exact ih (i + 1) none (by omega) hb he
        · skip
          refine G_st (L := 89) (k := 3) (86, [some (.ref 62), some (.int (nI c)), some (.int (nI w)), some (.int (-4)), some (.int (nI i)), some (.int (I 81 (30 * i + w))), none, none], [.int 0, .ref 64], qS sw gc I J) (q_hn _ _ _ _) rfl ?_
          refine G_iald (i := 64) (n := 4) rfl rfl (q_lt (by decide)) (by unfold vp_in; decide) ?_
          refine G_st (L := 89) (k := 1) (89, [some (.ref 62), some (.int (nI c)), some (.int (nI w)), some (.int (-4)), some (.int (nI i)), some (.int (I 81 (30 * i + w))), none, none], [.int (-4), .int (I 64 0)], qS sw gc I J) (q_hn _ _ _ _) rfl ?_
          refine G_icmp_eq 103 rfl rfl (fun h13 => ?_) (fun h13 => ?_)
          · skip
            refine G_st (L := 89) (k := 4) (112, [some (.ref 62), some (.int (nI c)), some (.int (nI w)), some (.int (-4)), some (.int (nI i)), some (.int (I 81 (30 * i + w))), some (.int 1), none], [.int 1], qS sw gc I J) (q_hn _ _ _ _) rfl ?_
            refine G_if_eq 181 rfl rfl (fun h9 => absurd h9 (by decide)) (fun _ => ?_)
            refine G_st (L := 89) (k := 2) (118, [some (.ref 62), some (.int (nI c)), some (.int (nI w)), some (.int (-4)), some (.int (nI i)), some (.int (I 81 (30 * i + w))), some (.int 1), none], [.int (-4), .int (-4)], qS sw gc I J) (q_hn _ _ _ _) rfl ?_
            refine G_icmp_ne 125 rfl rfl (fun h9 => absurd h9 (by decide)) (fun _ => ?_)
            refine G_st (L := 89) (k := 5) (141, [some (.ref 62), some (.int (nI c)), some (.int (nI w)), some (.int (-4)), some (.int (nI i)), some (.int (I 81 (30 * i + w))), some (.int 1), some (.int 0)], [.int (-4), .int (-4)], qS sw gc I J) (q_hn _ _ _ _) rfl ?_
            refine G_icmp_eq 174 rfl rfl (fun _ => ?_) (fun h9 => absurd h9 (by decide))
            refine G_st (L := 89) (k := 5) (31, [some (.ref 62), some (.int (nI c)), some (.int (nI w)), some (.int (nI i)), some (.int ((nI i) + 1)), some (.int (I 81 (30 * i + w))), some (.int 1), some (.int 0)], [], qS sw gc I J) (q_hn _ _ _ _) rfl ?_
            rw [show (nI i) + 1 = nI (i + 1) from (q_addP rfl rfl)]
            refine G_fg [some (.ref 62), some (.int (nI c)), some (.int (nI w)), some (.int (nI i)), some (.int (nI (i + 1))), none, none, none] (by repeat (first | exact trivial | refine ⟨rfl, ?_⟩)) ?_
            have e9 : (r_mt I w i && q_bto (r_bt I w i) none) = true := by
              show (r_mt I w i && true) = _
              rw [r_mt, decide_eq_false h11, decide_eq_true h12, decide_eq_true h13]
              rfl
            rw [e9] at he
            exact ih (i + 1) (some i) (by omega) (show i < gc by omega) he
          · skip
            refine G_st (L := 89) (k := 4) (99, [some (.ref 62), some (.int (nI c)), some (.int (nI w)), some (.int (-4)), some (.int (nI i)), some (.int (I 81 (30 * i + w))), none, none], [.int 0, .ref 64, .int (I 81 (30 * i + w))], qS sw gc I J) (q_hn _ _ _ _) rfl ?_
            refine G_iald (i := 64) (n := 4) rfl rfl (q_lt (by decide)) (by unfold vp_in; decide) ?_
            refine G_st (L := 89) (k := 0) (100, [some (.ref 62), some (.int (nI c)), some (.int (nI w)), some (.int (-4)), some (.int (nI i)), some (.int (I 81 (30 * i + w))), none, none], [.int (I 64 0), .int (I 81 (30 * i + w))], qS sw gc I J) (q_hn _ _ _ _) rfl ?_
            refine G_icmp_gt 107 rfl rfl (fun h14 => ?_) (fun h14 => ?_)
            · skip
              refine G_st (L := 89) (k := 3) (112, [some (.ref 62), some (.int (nI c)), some (.int (nI w)), some (.int (-4)), some (.int (nI i)), some (.int (I 81 (30 * i + w))), some (.int 0), none], [.int 0], qS sw gc I J) (q_hn _ _ _ _) rfl ?_
              refine G_if_eq 181 rfl rfl (fun _ => ?_) (fun h9 => absurd h9 (by decide))
              refine G_st (L := 89) (k := 2) (31, [some (.ref 62), some (.int (nI c)), some (.int (nI w)), some (.int (-4)), some (.int ((nI i) + 1)), some (.int (I 81 (30 * i + w))), some (.int 0), none], [], qS sw gc I J) (q_hn _ _ _ _) rfl ?_
              rw [show (nI i) + 1 = nI (i + 1) from (q_addP rfl rfl)]
              refine G_fg [some (.ref 62), some (.int (nI c)), some (.int (nI w)), some (.int (-4)), some (.int (nI (i + 1))), none, none, none] (by repeat (first | exact trivial | refine ⟨rfl, ?_⟩)) ?_
              have e9 : (r_mt I w i && q_bto (r_bt I w i) none) = false := by
                show (r_mt I w i && true) = _
                rw [r_mt, decide_eq_false h11, decide_eq_true h12, decide_eq_false h13, decide_eq_true h14]
                rfl
              rw [e9] at he
              exact ih (i + 1) none (by omega) hb he
            · skip
              refine G_st (L := 89) (k := 4) (112, [some (.ref 62), some (.int (nI c)), some (.int (nI w)), some (.int (-4)), some (.int (nI i)), some (.int (I 81 (30 * i + w))), some (.int 1), none], [.int 1], qS sw gc I J) (q_hn _ _ _ _) rfl ?_
              refine G_if_eq 181 rfl rfl (fun h9 => absurd h9 (by decide)) (fun _ => ?_)
              refine G_st (L := 89) (k := 2) (118, [some (.ref 62), some (.int (nI c)), some (.int (nI w)), some (.int (-4)), some (.int (nI i)), some (.int (I 81 (30 * i + w))), some (.int 1), none], [.int (-4), .int (-4)], qS sw gc I J) (q_hn _ _ _ _) rfl ?_
              refine G_icmp_ne 125 rfl rfl (fun h9 => absurd h9 (by decide)) (fun _ => ?_)
              refine G_st (L := 89) (k := 5) (141, [some (.ref 62), some (.int (nI c)), some (.int (nI w)), some (.int (-4)), some (.int (nI i)), some (.int (I 81 (30 * i + w))), some (.int 1), some (.int 0)], [.int (-4), .int (-4)], qS sw gc I J) (q_hn _ _ _ _) rfl ?_
              refine G_icmp_eq 174 rfl rfl (fun _ => ?_) (fun h9 => absurd h9 (by decide))
              refine G_st (L := 89) (k := 5) (31, [some (.ref 62), some (.int (nI c)), some (.int (nI w)), some (.int (nI i)), some (.int ((nI i) + 1)), some (.int (I 81 (30 * i + w))), some (.int 1), some (.int 0)], [], qS sw gc I J) (q_hn _ _ _ _) rfl ?_
              rw [show (nI i) + 1 = nI (i + 1) from (q_addP rfl rfl)]
              refine G_fg [some (.ref 62), some (.int (nI c)), some (.int (nI w)), some (.int (nI i)), some (.int (nI (i + 1))), none, none, none] (by repeat (first | exact trivial | refine ⟨rfl, ?_⟩)) ?_
              have e9 : (r_mt I w i && q_bto (r_bt I w i) none) = true := by
                show (r_mt I w i && true) = _
                rw [r_mt, decide_eq_false h11, decide_eq_true h12, decide_eq_false h13, decide_eq_false h14]
                rfl
              rw [e9] at he
              exact ih (i + 1) (some i) (by omega) (show i < gc by omega) he
    | some j =>
      have hj : j < gc := hb
      refine G_st (L := 89) (k := 3) (37, [some (.ref 62), some (.int (nI c)), some (.int (nI w)), some (.int (nI j)), some (.int (nI i)), none, none, none], [.int (I 62 20), .int (nI i)], qS sw gc I J) (q_hn _ _ _ _) rfl ?_
      rw [show I 62 20 = nI gc from hmg]
      refine G_icmp_ge 187 rfl rfl (fun h9 => absurd h9 (nI_ge (by omega) (by omega))) (fun _ => ?_)
      refine G_st (L := 89) (k := 2) (42, [some (.ref 62), some (.int (nI c)), some (.int (nI w)), some (.int (nI j)), some (.int (nI i)), none, none, none], [.int (nI w), .ref 62], qS sw gc I J) (q_hn _ _ _ _) rfl ?_
      refine G_callV (b := 62) (ci := 9) (as := [.int (nI w)]) (rest := []) rfl rfl rfl (q_lt (by decide)) (by decide) rfl rfl (Nat.le_of_ble_eq_true rfl) (GM_r (r2 := 1) (r_mayBeWorked hw) (by rw [hmay]; rfl)) (Nat.le_refl _) ?_
      refine G_st (L := 89) (k := 0) (45, [some (.ref 62), some (.int (nI c)), some (.int (nI w)), some (.int (nI j)), some (.int (nI i)), none, none, none], [.int 1], qS sw gc I J) (q_hn _ _ _ _) rfl ?_
      refine G_if_eq 187 rfl rfl (fun h9 => absurd h9 (by decide)) (fun _ => ?_)
      refine G_st (L := 89) (k := 7) (59, [some (.ref 62), some (.int (nI c)), some (.int (nI w)), some (.int (nI j)), some (.int (nI i)), none, none, none], [.int ((30 * (nI i)) + (nI w)), .ref 81], qS sw gc I J) (q_hn _ _ _ _) rfl ?_
      rw [show (30 * (nI i)) + (nI w) = nI (30 * i + w) from (q_addP (q_mulP rfl rfl) rfl)]
      refine G_iald (i := 81) (n := 240) rfl rfl (q_lt (by decide)) (vp_in_nI (by omega) (by decide)) ?_
      rw [q_clamp (n := 30 * i + w) (by omega)]
      refine G_st (L := 89) (k := 3) (66, [some (.ref 62), some (.int (nI c)), some (.int (nI w)), some (.int (nI j)), some (.int (nI i)), some (.int (I 81 (30 * i + w))), none, none], [.int (-4), .int (I 81 (30 * i + w))], qS sw gc I J) (q_hn _ _ _ _) rfl ?_
      refine G_icmp_eq 107 rfl rfl (fun h11 => ?_) (fun h11 => ?_)
      · skip
        refine G_st (L := 89) (k := 3) (112, [some (.ref 62), some (.int (nI c)), some (.int (nI w)), some (.int (nI j)), some (.int (nI i)), some (.int (I 81 (30 * i + w))), some (.int 0), none], [.int 0], qS sw gc I J) (q_hn _ _ _ _) rfl ?_
        refine G_if_eq 181 rfl rfl (fun _ => ?_) (fun h9 => absurd h9 (by decide))
        refine G_st (L := 89) (k := 2) (31, [some (.ref 62), some (.int (nI c)), some (.int (nI w)), some (.int (nI j)), some (.int ((nI i) + 1)), some (.int (I 81 (30 * i + w))), some (.int 0), none], [], qS sw gc I J) (q_hn _ _ _ _) rfl ?_
        rw [show (nI i) + 1 = nI (i + 1) from (q_addP rfl rfl)]
        refine G_fg [some (.ref 62), some (.int (nI c)), some (.int (nI w)), some (.int (nI j)), some (.int (nI (i + 1))), none, none, none] (by repeat (first | exact trivial | refine ⟨rfl, ?_⟩)) ?_
        have e9 : (r_mt I w i && q_bto (r_bt I w i) (some j)) = false := by
          show (r_mt I w i && r_bt I w i j) = _
          rw [r_mt, decide_eq_true h11]
          rfl
        rw [e9] at he
        exact ih (i + 1) (some j) (by omega) hb he
      · skip
        refine G_st (L := 89) (k := 3) (75, [some (.ref 62), some (.int (nI c)), some (.int (nI w)), some (.int (nI j)), some (.int (nI i)), some (.int (I 81 (30 * i + w))), none, none], [.int (nI i), .ref 77], qS sw gc I J) (q_hn _ _ _ _) rfl ?_
        refine G_iald (i := 77) (n := 8) rfl rfl (q_lt (by decide)) (vp_in_nI (by omega) (by decide)) ?_
        rw [q_clamp (n := i) (by omega)]
        refine G_st (L := 89) (k := 1) (78, [some (.ref 62), some (.int (nI c)), some (.int (nI w)), some (.int (nI j)), some (.int (nI i)), some (.int (I 81 (30 * i + w))), none, none], [.int (-4), .int (I 77 i)], qS sw gc I J) (q_hn _ _ _ _) rfl ?_
        refine G_icmp_ne 107 rfl rfl (fun h12 => ?_) (fun h12 => ?_)
        · skip
          refine G_st (L := 89) (k := 3) (112, [some (.ref 62), some (.int (nI c)), some (.int (nI w)), some (.int (nI j)), some (.int (nI i)), some (.int (I 81 (30 * i + w))), some (.int 0), none], [.int 0], qS sw gc I J) (q_hn _ _ _ _) rfl ?_
          refine G_if_eq 181 rfl rfl (fun _ => ?_) (fun h9 => absurd h9 (by decide))
          refine G_st (L := 89) (k := 2) (31, [some (.ref 62), some (.int (nI c)), some (.int (nI w)), some (.int (nI j)), some (.int ((nI i) + 1)), some (.int (I 81 (30 * i + w))), some (.int 0), none], [], qS sw gc I J) (q_hn _ _ _ _) rfl ?_
          rw [show (nI i) + 1 = nI (i + 1) from (q_addP rfl rfl)]
          refine G_fg [some (.ref 62), some (.int (nI c)), some (.int (nI w)), some (.int (nI j)), some (.int (nI (i + 1))), none, none, none] (by repeat (first | exact trivial | refine ⟨rfl, ?_⟩)) ?_
          have e9 : (r_mt I w i && q_bto (r_bt I w i) (some j)) = false := by
            show (r_mt I w i && r_bt I w i j) = _
            rw [r_mt, decide_eq_false h11, decide_eq_false h12]
            rfl
          rw [e9] at he
          exact ih (i + 1) (some j) (by omega) hb he
        · skip
          refine G_st (L := 89) (k := 3) (86, [some (.ref 62), some (.int (nI c)), some (.int (nI w)), some (.int (nI j)), some (.int (nI i)), some (.int (I 81 (30 * i + w))), none, none], [.int 0, .ref 64], qS sw gc I J) (q_hn _ _ _ _) rfl ?_
          refine G_iald (i := 64) (n := 4) rfl rfl (q_lt (by decide)) (by unfold vp_in; decide) ?_
          refine G_st (L := 89) (k := 1) (89, [some (.ref 62), some (.int (nI c)), some (.int (nI w)), some (.int (nI j)), some (.int (nI i)), some (.int (I 81 (30 * i + w))), none, none], [.int (-4), .int (I 64 0)], qS sw gc I J) (q_hn _ _ _ _) rfl ?_
          refine G_icmp_eq 103 rfl rfl (fun h13 => ?_) (fun h13 => ?_)
          · skip
            refine G_st (L := 89) (k := 4) (112, [some (.ref 62), some (.int (nI c)), some (.int (nI w)), some (.int (nI j)), some (.int (nI i)), some (.int (I 81 (30 * i + w))), some (.int 1), none], [.int 1], qS sw gc I J) (q_hn _ _ _ _) rfl ?_
            refine G_if_eq 181 rfl rfl (fun h9 => absurd h9 (by decide)) (fun _ => ?_)
            refine G_st (L := 89) (k := 2) (118, [some (.ref 62), some (.int (nI c)), some (.int (nI w)), some (.int (nI j)), some (.int (nI i)), some (.int (I 81 (30 * i + w))), some (.int 1), none], [.int (-4), .int (nI j)], qS sw gc I J) (q_hn _ _ _ _) rfl ?_
            refine G_icmp_ne 125 rfl rfl (fun _ => ?_) (fun h9 => absurd h9 (q_neN (by decide) (by omega)))
            refine G_st (L := 89) (k := 7) (135, [some (.ref 62), some (.int (nI c)), some (.int (nI w)), some (.int (nI j)), some (.int (nI i)), some (.int (I 81 (30 * i + w))), some (.int 1), none], [.int ((30 * (nI j)) + (nI w)), .ref 81], qS sw gc I J) (q_hn _ _ _ _) rfl ?_
            rw [show (30 * (nI j)) + (nI w) = nI (30 * j + w) from (q_addP (q_mulP rfl rfl) rfl)]
            refine G_iald (i := 81) (n := 240) rfl rfl (q_lt (by decide)) (vp_in_nI (by omega) (by decide)) ?_
            rw [q_clamp (n := 30 * j + w) (by omega)]
            refine G_st (L := 89) (k := 3) (141, [some (.ref 62), some (.int (nI c)), some (.int (nI w)), some (.int (nI j)), some (.int (nI i)), some (.int (I 81 (30 * i + w))), some (.int 1), some (.int (I 81 (30 * j + w)))], [.int (-4), .int (nI j)], qS sw gc I J) (q_hn _ _ _ _) rfl ?_
            refine G_icmp_eq 174 rfl rfl (fun h9 => absurd h9 (q_neN (by decide) (by omega))) (fun _ => ?_)
            refine G_st (L := 89) (k := 2) (148, [some (.ref 62), some (.int (nI c)), some (.int (nI w)), some (.int (nI j)), some (.int (nI i)), some (.int (I 81 (30 * i + w))), some (.int 1), some (.int (I 81 (30 * j + w)))], [.int (I 81 (30 * j + w)), .int (I 81 (30 * i + w))], qS sw gc I J) (q_hn _ _ _ _) rfl ?_
            refine G_icmp_lt 174 rfl rfl (fun h14 => ?_) (fun h14 => ?_)
            · skip
              refine G_st (L := 89) (k := 5) (31, [some (.ref 62), some (.int (nI c)), some (.int (nI w)), some (.int (nI i)), some (.int ((nI i) + 1)), some (.int (I 81 (30 * i + w))), some (.int 1), some (.int (I 81 (30 * j + w)))], [], qS sw gc I J) (q_hn _ _ _ _) rfl ?_
              rw [show (nI i) + 1 = nI (i + 1) from (q_addP rfl rfl)]
              refine G_fg [some (.ref 62), some (.int (nI c)), some (.int (nI w)), some (.int (nI i)), some (.int (nI (i + 1))), none, none, none] (by repeat (first | exact trivial | refine ⟨rfl, ?_⟩)) ?_
              have e9 : (r_mt I w i && q_bto (r_bt I w i) (some j)) = true := by
                show (r_mt I w i && r_bt I w i j) = _
                rw [r_mt, decide_eq_false h11, decide_eq_true h12, decide_eq_true h13, r_bt, decide_eq_true h14]
                rfl
              rw [e9] at he
              exact ih (i + 1) (some i) (by omega) (show i < gc by omega) he
            · skip
              refine G_st (L := 89) (k := 2) (155, [some (.ref 62), some (.int (nI c)), some (.int (nI w)), some (.int (nI j)), some (.int (nI i)), some (.int (I 81 (30 * i + w))), some (.int 1), some (.int (I 81 (30 * j + w)))], [.int (I 81 (30 * j + w)), .int (I 81 (30 * i + w))], qS sw gc I J) (q_hn _ _ _ _) rfl ?_
              refine G_icmp_ne 179 rfl rfl (fun h15 => ?_) (fun h15 => ?_)
              · skip
                refine G_st (L := 89) (k := 4) (31, [some (.ref 62), some (.int (nI c)), some (.int (nI w)), some (.int (nI j)), some (.int ((nI i) + 1)), some (.int (I 81 (30 * i + w))), some (.int 1), some (.int (I 81 (30 * j + w)))], [], qS sw gc I J) (q_hn _ _ _ _) rfl ?_
                rw [show (nI i) + 1 = nI (i + 1) from (q_addP rfl rfl)]
                refine G_fg [some (.ref 62), some (.int (nI c)), some (.int (nI w)), some (.int (nI j)), some (.int (nI (i + 1))), none, none, none] (by repeat (first | exact trivial | refine ⟨rfl, ?_⟩)) ?_
                have e9 : (r_mt I w i && q_bto (r_bt I w i) (some j)) = false := by
                  show (r_mt I w i && r_bt I w i j) = _
                  rw [r_mt, decide_eq_false h11, decide_eq_true h12, decide_eq_true h13, r_bt, decide_eq_false h14, decide_eq_false h15]
                  rfl
                rw [e9] at he
                exact ih (i + 1) (some j) (by omega) hb he
              · skip
                refine G_st (L := 89) (k := 3) (164, [some (.ref 62), some (.int (nI c)), some (.int (nI w)), some (.int (nI j)), some (.int (nI i)), some (.int (I 81 (30 * i + w))), some (.int 1), some (.int (I 81 (30 * j + w)))], [.int (nI i), .ref 76], qS sw gc I J) (q_hn _ _ _ _) rfl ?_
                refine G_iald (i := 76) (n := 8) rfl rfl (q_lt (by decide)) (vp_in_nI (by omega) (by decide)) ?_
                rw [q_clamp (n := i) (by omega)]
                refine G_st (L := 89) (k := 3) (170, [some (.ref 62), some (.int (nI c)), some (.int (nI w)), some (.int (nI j)), some (.int (nI i)), some (.int (I 81 (30 * i + w))), some (.int 1), some (.int (I 81 (30 * j + w)))], [.int (nI j), .ref 76, .int (I 76 i)], qS sw gc I J) (q_hn _ _ _ _) rfl ?_
                refine G_iald (i := 76) (n := 8) rfl rfl (q_lt (by decide)) (vp_in_nI (by omega) (by decide)) ?_
                rw [q_clamp (n := j) (by omega)]
                refine G_st (L := 89) (k := 0) (171, [some (.ref 62), some (.int (nI c)), some (.int (nI w)), some (.int (nI j)), some (.int (nI i)), some (.int (I 81 (30 * i + w))), some (.int 1), some (.int (I 81 (30 * j + w)))], [.int (I 76 j), .int (I 76 i)], qS sw gc I J) (q_hn _ _ _ _) rfl ?_
                refine G_icmp_ge 179 rfl rfl (fun h16 => ?_) (fun h16 => ?_)
                · skip
                  refine G_st (L := 89) (k := 4) (31, [some (.ref 62), some (.int (nI c)), some (.int (nI w)), some (.int (nI j)), some (.int ((nI i) + 1)), some (.int (I 81 (30 * i + w))), some (.int 1), some (.int (I 81 (30 * j + w)))], [], qS sw gc I J) (q_hn _ _ _ _) rfl ?_
                  rw [show (nI i) + 1 = nI (i + 1) from (q_addP rfl rfl)]
                  refine G_fg [some (.ref 62), some (.int (nI c)), some (.int (nI w)), some (.int (nI j)), some (.int (nI (i + 1))), none, none, none] (by repeat (first | exact trivial | refine ⟨rfl, ?_⟩)) ?_
                  have e9 : (r_mt I w i && q_bto (r_bt I w i) (some j)) = false := by
                    show (r_mt I w i && r_bt I w i j) = _
                    rw [r_mt, decide_eq_false h11, decide_eq_true h12, decide_eq_true h13, r_bt, decide_eq_false h14, decide_eq_true h15, decide_eq_true h16]
                    rfl
                  rw [e9] at he
                  exact ih (i + 1) (some j) (by omega) hb he
                · skip
                  refine G_st (L := 89) (k := 5) (31, [some (.ref 62), some (.int (nI c)), some (.int (nI w)), some (.int (nI i)), some (.int ((nI i) + 1)), some (.int (I 81 (30 * i + w))), some (.int 1), some (.int (I 81 (30 * j + w)))], [], qS sw gc I J) (q_hn _ _ _ _) rfl ?_
                  rw [show (nI i) + 1 = nI (i + 1) from (q_addP rfl rfl)]
                  refine G_fg [some (.ref 62), some (.int (nI c)), some (.int (nI w)), some (.int (nI i)), some (.int (nI (i + 1))), none, none, none] (by repeat (first | exact trivial | refine ⟨rfl, ?_⟩)) ?_
                  have e9 : (r_mt I w i && q_bto (r_bt I w i) (some j)) = true := by
                    show (r_mt I w i && r_bt I w i j) = _
                    rw [r_mt, decide_eq_false h11, decide_eq_true h12, decide_eq_true h13, r_bt, decide_eq_false h14, decide_eq_true h15, decide_eq_false h16]
                    rfl
                  rw [e9] at he
                  exact ih (i + 1) (some i) (by omega) (show i < gc by omega) he
          · skip
            refine G_st (L := 89) (k := 4) (99, [some (.ref 62), some (.int (nI c)), some (.int (nI w)), some (.int (nI j)), some (.int (nI i)), some (.int (I 81 (30 * i + w))), none, none], [.int 0, .ref 64, .int (I 81 (30 * i + w))], qS sw gc I J) (q_hn _ _ _ _) rfl ?_
            refine G_iald (i := 64) (n := 4) rfl rfl (q_lt (by decide)) (by unfold vp_in; decide) ?_
            refine G_st (L := 89) (k := 0) (100, [some (.ref 62), some (.int (nI c)), some (.int (nI w)), some (.int (nI j)), some (.int (nI i)), some (.int (I 81 (30 * i + w))), none, none], [.int (I 64 0), .int (I 81 (30 * i + w))], qS sw gc I J) (q_hn _ _ _ _) rfl ?_
            refine G_icmp_gt 107 rfl rfl (fun h17 => ?_) (fun h17 => ?_)
            · skip
              refine G_st (L := 89) (k := 3) (112, [some (.ref 62), some (.int (nI c)), some (.int (nI w)), some (.int (nI j)), some (.int (nI i)), some (.int (I 81 (30 * i + w))), some (.int 0), none], [.int 0], qS sw gc I J) (q_hn _ _ _ _) rfl ?_
              refine G_if_eq 181 rfl rfl (fun _ => ?_) (fun h9 => absurd h9 (by decide))
              refine G_st (L := 89) (k := 2) (31, [some (.ref 62), some (.int (nI c)), some (.int (nI w)), some (.int (nI j)), some (.int ((nI i) + 1)), some (.int (I 81 (30 * i + w))), some (.int 0), none], [], qS sw gc I J) (q_hn _ _ _ _) rfl ?_
              rw [show (nI i) + 1 = nI (i + 1) from (q_addP rfl rfl)]
              refine G_fg [some (.ref 62), some (.int (nI c)), some (.int (nI w)), some (.int (nI j)), some (.int (nI (i + 1))), none, none, none] (by repeat (first | exact trivial | refine ⟨rfl, ?_⟩)) ?_
              have e9 : (r_mt I w i && q_bto (r_bt I w i) (some j)) = false := by
                show (r_mt I w i && r_bt I w i j) = _
                rw [r_mt, decide_eq_false h11, decide_eq_true h12, decide_eq_false h13, decide_eq_true h17]
                rfl
              rw [e9] at he
              exact ih (i + 1) (some j) (by omega) hb he
            · skip
              refine G_st (L := 89) (k := 4) (112, [some (.ref 62), some (.int (nI c)), some (.int (nI w)), some (.int (nI j)), some (.int (nI i)), some (.int (I 81 (30 * i + w))), some (.int 1), none], [.int 1], qS sw gc I J) (q_hn _ _ _ _) rfl ?_
              refine G_if_eq 181 rfl rfl (fun h9 => absurd h9 (by decide)) (fun _ => ?_)
              refine G_st (L := 89) (k := 2) (118, [some (.ref 62), some (.int (nI c)), some (.int (nI w)), some (.int (nI j)), some (.int (nI i)), some (.int (I 81 (30 * i + w))), some (.int 1), none], [.int (-4), .int (nI j)], qS sw gc I J) (q_hn _ _ _ _) rfl ?_
              refine G_icmp_ne 125 rfl rfl (fun _ => ?_) (fun h9 => absurd h9 (q_neN (by decide) (by omega)))
              refine G_st (L := 89) (k := 7) (135, [some (.ref 62), some (.int (nI c)), some (.int (nI w)), some (.int (nI j)), some (.int (nI i)), some (.int (I 81 (30 * i + w))), some (.int 1), none], [.int ((30 * (nI j)) + (nI w)), .ref 81], qS sw gc I J) (q_hn _ _ _ _) rfl ?_
              rw [show (30 * (nI j)) + (nI w) = nI (30 * j + w) from (q_addP (q_mulP rfl rfl) rfl)]
              refine G_iald (i := 81) (n := 240) rfl rfl (q_lt (by decide)) (vp_in_nI (by omega) (by decide)) ?_
              rw [q_clamp (n := 30 * j + w) (by omega)]
              refine G_st (L := 89) (k := 3) (141, [some (.ref 62), some (.int (nI c)), some (.int (nI w)), some (.int (nI j)), some (.int (nI i)), some (.int (I 81 (30 * i + w))), some (.int 1), some (.int (I 81 (30 * j + w)))], [.int (-4), .int (nI j)], qS sw gc I J) (q_hn _ _ _ _) rfl ?_
              refine G_icmp_eq 174 rfl rfl (fun h9 => absurd h9 (q_neN (by decide) (by omega))) (fun _ => ?_)
              refine G_st (L := 89) (k := 2) (148, [some (.ref 62), some (.int (nI c)), some (.int (nI w)), some (.int (nI j)), some (.int (nI i)), some (.int (I 81 (30 * i + w))), some (.int 1), some (.int (I 81 (30 * j + w)))], [.int (I 81 (30 * j + w)), .int (I 81 (30 * i + w))], qS sw gc I J) (q_hn _ _ _ _) rfl ?_
              refine G_icmp_lt 174 rfl rfl (fun h18 => ?_) (fun h18 => ?_)
              · skip
                refine G_st (L := 89) (k := 5) (31, [some (.ref 62), some (.int (nI c)), some (.int (nI w)), some (.int (nI i)), some (.int ((nI i) + 1)), some (.int (I 81 (30 * i + w))), some (.int 1), some (.int (I 81 (30 * j + w)))], [], qS sw gc I J) (q_hn _ _ _ _) rfl ?_
                rw [show (nI i) + 1 = nI (i + 1) from (q_addP rfl rfl)]
                refine G_fg [some (.ref 62), some (.int (nI c)), some (.int (nI w)), some (.int (nI i)), some (.int (nI (i + 1))), none, none, none] (by repeat (first | exact trivial | refine ⟨rfl, ?_⟩)) ?_
                have e9 : (r_mt I w i && q_bto (r_bt I w i) (some j)) = true := by
                  show (r_mt I w i && r_bt I w i j) = _
                  rw [r_mt, decide_eq_false h11, decide_eq_true h12, decide_eq_false h13, decide_eq_false h17, r_bt, decide_eq_true h18]
                  rfl
                rw [e9] at he
                exact ih (i + 1) (some i) (by omega) (show i < gc by omega) he
              · skip
                refine G_st (L := 89) (k := 2) (155, [some (.ref 62), some (.int (nI c)), some (.int (nI w)), some (.int (nI j)), some (.int (nI i)), some (.int (I 81 (30 * i + w))), some (.int 1), some (.int (I 81 (30 * j + w)))], [.int (I 81 (30 * j + w)), .int (I 81 (30 * i + w))], qS sw gc I J) (q_hn _ _ _ _) rfl ?_
                refine G_icmp_ne 179 rfl rfl (fun h19 => ?_) (fun h19 => ?_)
                · skip
                  refine G_st (L := 89) (k := 4) (31, [some (.ref 62), some (.int (nI c)), some (.int (nI w)), some (.int (nI j)), some (.int ((nI i) + 1)), some (.int (I 81 (30 * i + w))), some (.int 1), some (.int (I 81 (30 * j + w)))], [], qS sw gc I J) (q_hn _ _ _ _) rfl ?_
                  rw [show (nI i) + 1 = nI (i + 1) from (q_addP rfl rfl)]
                  refine G_fg [some (.ref 62), some (.int (nI c)), some (.int (nI w)), some (.int (nI j)), some (.int (nI (i + 1))), none, none, none] (by repeat (first | exact trivial | refine ⟨rfl, ?_⟩)) ?_
                  have e9 : (r_mt I w i && q_bto (r_bt I w i) (some j)) = false := by
                    show (r_mt I w i && r_bt I w i j) = _
                    rw [r_mt, decide_eq_false h11, decide_eq_true h12, decide_eq_false h13, decide_eq_false h17, r_bt, decide_eq_false h18, decide_eq_false h19]
                    rfl
                  rw [e9] at he
                  exact ih (i + 1) (some j) (by omega) hb he
                · skip
                  refine G_st (L := 89) (k := 3) (164, [some (.ref 62), some (.int (nI c)), some (.int (nI w)), some (.int (nI j)), some (.int (nI i)), some (.int (I 81 (30 * i + w))), some (.int 1), some (.int (I 81 (30 * j + w)))], [.int (nI i), .ref 76], qS sw gc I J) (q_hn _ _ _ _) rfl ?_
                  refine G_iald (i := 76) (n := 8) rfl rfl (q_lt (by decide)) (vp_in_nI (by omega) (by decide)) ?_
                  rw [q_clamp (n := i) (by omega)]
                  refine G_st (L := 89) (k := 3) (170, [some (.ref 62), some (.int (nI c)), some (.int (nI w)), some (.int (nI j)), some (.int (nI i)), some (.int (I 81 (30 * i + w))), some (.int 1), some (.int (I 81 (30 * j + w)))], [.int (nI j), .ref 76, .int (I 76 i)], qS sw gc I J) (q_hn _ _ _ _) rfl ?_
                  refine G_iald (i := 76) (n := 8) rfl rfl (q_lt (by decide)) (vp_in_nI (by omega) (by decide)) ?_
                  rw [q_clamp (n := j) (by omega)]
                  refine G_st (L := 89) (k := 0) (171, [some (.ref 62), some (.int (nI c)), some (.int (nI w)), some (.int (nI j)), some (.int (nI i)), some (.int (I 81 (30 * i + w))), some (.int 1), some (.int (I 81 (30 * j + w)))], [.int (I 76 j), .int (I 76 i)], qS sw gc I J) (q_hn _ _ _ _) rfl ?_
                  refine G_icmp_ge 179 rfl rfl (fun h20 => ?_) (fun h20 => ?_)
                  · skip
                    refine G_st (L := 89) (k := 4) (31, [some (.ref 62), some (.int (nI c)), some (.int (nI w)), some (.int (nI j)), some (.int ((nI i) + 1)), some (.int (I 81 (30 * i + w))), some (.int 1), some (.int (I 81 (30 * j + w)))], [], qS sw gc I J) (q_hn _ _ _ _) rfl ?_
                    rw [show (nI i) + 1 = nI (i + 1) from (q_addP rfl rfl)]
                    refine G_fg [some (.ref 62), some (.int (nI c)), some (.int (nI w)), some (.int (nI j)), some (.int (nI (i + 1))), none, none, none] (by repeat (first | exact trivial | refine ⟨rfl, ?_⟩)) ?_
                    have e9 : (r_mt I w i && q_bto (r_bt I w i) (some j)) = false := by
                      show (r_mt I w i && r_bt I w i j) = _
                      rw [r_mt, decide_eq_false h11, decide_eq_true h12, decide_eq_false h13, decide_eq_false h17, r_bt, decide_eq_false h18, decide_eq_true h19, decide_eq_true h20]
                      rfl
                    rw [e9] at he
                    exact ih (i + 1) (some j) (by omega) hb he
                  · skip
                    refine G_st (L := 89) (k := 5) (31, [some (.ref 62), some (.int (nI c)), some (.int (nI w)), some (.int (nI i)), some (.int ((nI i) + 1)), some (.int (I 81 (30 * i + w))), some (.int 1), some (.int (I 81 (30 * j + w)))], [], qS sw gc I J) (q_hn _ _ _ _) rfl ?_
                    rw [show (nI i) + 1 = nI (i + 1) from (q_addP rfl rfl)]
                    refine G_fg [some (.ref 62), some (.int (nI c)), some (.int (nI w)), some (.int (nI i)), some (.int (nI (i + 1))), none, none, none] (by repeat (first | exact trivial | refine ⟨rfl, ?_⟩)) ?_
                    have e9 : (r_mt I w i && q_bto (r_bt I w i) (some j)) = true := by
                      show (r_mt I w i && r_bt I w i j) = _
                      rw [r_mt, decide_eq_false h11, decide_eq_true h12, decide_eq_false h13, decide_eq_false h17, r_bt, decide_eq_false h18, decide_eq_true h19, decide_eq_false h20]
                      rfl
                    rw [e9] at he
                    exact ih (i + 1) (some i) (by omega) (show i < gc by omega) he
theorem r_lb_no {d : Nat} {sw : Bool} {gc : Nat} {I : Nat → Nat → Int32} {J : Nat → Nat → Int64} {w c : Nat} (hmg : I 62 20 = nI gc) (hg : gc ≤ 8) (hw : w < 30) (hmay : r_may I w = false) {r : Int32} {Iz : Nat → Nat → Int32} (g : G (d + 1) 127 (187, [some (.ref 62), some (.int (nI c)), some (.int (nI w)), some (.int (x_oi none)), none, none, none, none], [], qS sw gc I J) (some (.int r)) (qS sw gc Iz J)) : G (d + 1) 127 (31, [some (.ref 62), some (.int (nI c)), some (.int (nI w)), some (.int (-4)), some (.int 0), none, none, none], [], qS sw gc I J) (some (.int r)) (qS sw gc Iz J) := by
  refine G_st (L := 89) (k := 3) (37, [some (.ref 62), some (.int (nI c)), some (.int (nI w)), some (.int (-4)), some (.int 0), none, none, none], [.int (I 62 20), .int 0], qS sw gc I J) (q_hn _ _ _ _) rfl ?_
  rw [show I 62 20 = nI gc from hmg]
  refine G_icmp_ge 187 rfl rfl (fun h11 => ?_) (fun h11 => ?_)
  · skip
    refine G_fg [some (.ref 62), some (.int (nI c)), some (.int (nI w)), some (.int (-4)), none, none, none, none] (by repeat (first | exact trivial | refine ⟨rfl, ?_⟩)) ?_
    exact g
  · skip
    refine G_st (L := 89) (k := 2) (42, [some (.ref 62), some (.int (nI c)), some (.int (nI w)), some (.int (-4)), some (.int 0), none, none, none], [.int (nI w), .ref 62], qS sw gc I J) (q_hn _ _ _ _) rfl ?_
    refine G_callV (b := 62) (ci := 9) (as := [.int (nI w)]) (rest := []) rfl rfl rfl (q_lt (by decide)) (by decide) rfl rfl (Nat.le_of_ble_eq_true rfl) (GM_r (r2 := 0) (r_mayBeWorked hw) (by rw [hmay]; rfl)) (Nat.le_refl _) ?_
    refine G_st (L := 89) (k := 0) (45, [some (.ref 62), some (.int (nI c)), some (.int (nI w)), some (.int (-4)), some (.int 0), none, none, none], [.int 0], qS sw gc I J) (q_hn _ _ _ _) rfl ?_
    refine G_if_eq 187 rfl rfl (fun _ => ?_) (fun h9 => absurd h9 (by decide))
    refine G_fg [some (.ref 62), some (.int (nI c)), some (.int (nI w)), some (.int (-4)), none, none, none, none] (by repeat (first | exact trivial | refine ⟨rfl, ?_⟩)) ?_
    exact g
theorem r_lt_gc (I : Nat → Nat → Int32) (k w : Nat) : r_lt I k w 62 20 = I 62 20 := by
  unfold r_lt
  rw [q_un _ _ (by omega), q_un _ _ (by omega), q_un _ _ (by omega), q_un _ _ (by omega)]
theorem q_bs_ok {gc : Nat} {ok : Nat → Bool} {bt : Nat → Nat → Bool} : ∀ (n i : Nat) (b : Option Nat), i + n ≤ gc → x_okO gc b → x_okO gc (q_bs ok bt n i b)
  | 0, _, _, _, h => h
  | n + 1, i, b, hi, h => by
    unfold q_bs
    refine q_bs_ok n (i + 1) _ (by omega) ?_
    cases (ok i && q_bto (bt i) b) with
    | true => exact (show i < gc by omega)
    | false => exact h
set_option maxRecDepth 8000 in
theorem r_let_loop {d : Nat} {sw : Bool} {gc : Nat} {J : Nat → Nat → Int64} (hg : gc ≤ 8) : ∀ (n w c : Nat) (I : Nat → Nat → Int32), I 62 20 = nI gc → w + n = 30 → c + n < 1000 → G (d + 1) 127 (19, [some (.ref 62), some (.int (nI c)), some (.int (nI w)), none, none, none, none, none], [], qS sw gc I J) (some (.int (nI (c + r_letC gc n w I)))) (qS sw gc (r_letI gc n w I) J) := by
  intro n
  induction n with
  | zero =>
    intro w c I hmg h hc
    obtain rfl : w = 30 := by omega
    show G _ _ _ (some (.int (nI c))) (qS sw gc I J)
    refine G_st (L := 89) (k := 2) (22, [some (.ref 62), some (.int (nI c)), some (.int 30), none, none, none, none, none], [.int 30, .int 30], qS sw gc I J) (q_hn _ _ _ _) rfl ?_
    refine G_icmp_ge 243 rfl rfl (fun _ => ?_) (fun h9 => absurd h9 (by decide))
    refine G_st (L := 89) (k := 1) (244, [some (.ref 62), some (.int (nI c)), some (.int 30), none, none, none, none, none], [.int (nI c)], qS sw gc I J) (q_hn _ _ _ _) rfl ?_
    exact G_iret rfl rfl rfl rfl
  | succ n ih =>
    intro w c I hmg h hc
    have E : ∀ (o : Option Nat), x_okO gc o → cond (r_may I w) (r_bst I gc w) none = o → G (d + 1) 127 (187, [some (.ref 62), some (.int (nI c)), some (.int (nI w)), some (.int (x_oi o)), none, none, none, none], [], qS sw gc I J) (some (.int (nI (c + r_letC gc (n + 1) w I)))) (qS sw gc (r_letI gc (n + 1) w I) J) := by
      intro b hb he
      unfold r_letC r_letI
      rw [he]
      cases b with
      | none =>
        show G _ _ _ (some (.int (nI (c + r_letC gc n (w + 1) I)))) (qS sw gc (r_letI gc n (w + 1) I) J)
        refine G_st (L := 89) (k := 2) (190, [some (.ref 62), some (.int (nI c)), some (.int (nI w)), some (.int (-4)), none, none, none, none], [.int (-4), .int (-4)], qS sw gc I J) (q_hn _ _ _ _) rfl ?_
        refine G_icmp_eq 237 rfl rfl (fun _ => ?_) (fun h9 => absurd h9 (by decide))
        refine G_st (L := 89) (k := 2) (19, [some (.ref 62), some (.int (nI c)), some (.int ((nI w) + 1)), some (.int (-4)), none, none, none, none], [], qS sw gc I J) (q_hn _ _ _ _) rfl ?_
        rw [show (nI w) + 1 = nI (w + 1) from (q_addP rfl rfl)]
        refine G_fg [some (.ref 62), some (.int (nI c)), some (.int (nI (w + 1))), none, none, none, none, none] (by repeat (first | exact trivial | refine ⟨rfl, ?_⟩)) ?_
        exact ih (w + 1) c I hmg (by omega) (by omega)
      | some k =>
        have hk : k < gc := hb
        show G _ _ _ (some (.int (nI (c + (r_letC gc n (w + 1) (r_lt I k w) + 1)))) ) (qS sw gc (r_letI gc n (w + 1) (r_lt I k w)) J)
        rw [show c + (r_letC gc n (w + 1) (r_lt I k w) + 1) = c + 1 + r_letC gc n (w + 1) (r_lt I k w) by omega]
        refine G_st (L := 89) (k := 2) (190, [some (.ref 62), some (.int (nI c)), some (.int (nI w)), some (.int (nI k)), none, none, none, none], [.int (-4), .int (nI k)], qS sw gc I J) (q_hn _ _ _ _) rfl ?_
        refine G_icmp_eq 237 rfl rfl (fun h9 => absurd h9 (q_neN (by decide) (by omega))) (fun _ => ?_)
        refine G_st (L := 89) (k := 4) (199, [some (.ref 62), some (.int (nI c)), some (.int (nI w)), some (.int (nI k)), none, none, none, none], [.int (nI k), .int (nI w), .ref 73], qS sw gc I J) (q_hn _ _ _ _) rfl ?_
        refine G_iast (i := 73) (n := 30) rfl rfl (q_lt (by decide)) (vp_in_nI (by omega) (by decide)) ?_
        rw [q_clamp (n := w) (by omega)]
        refine G_st (L := 89) (k := 4) (206, [some (.ref 62), some (.int (nI c)), some (.int (nI w)), some (.int (nI k)), none, none, none, none], [.int (nI w), .int (nI k), .ref 77], qS sw gc (q_u I 73 w (nI k)) J) (q_hn _ _ _ _) rfl ?_
        refine G_iast (i := 77) (n := 8) rfl rfl (q_lt (by decide)) (vp_in_nI (by omega) (by decide)) ?_
        rw [q_clamp (n := k) (by omega)]
        refine G_st (L := 89) (k := 10) (222, [some (.ref 62), some (.int (nI c)), some (.int (nI w)), some (.int (nI k)), none, none, none, none], [.int ((30 * (nI k)) + (nI w)), .ref 81, .int (nI k), .ref 78], qS sw gc (q_u (q_u I 73 w (nI k)) 77 k (nI w)) J) (q_hn _ _ _ _) rfl ?_
        rw [show (30 * (nI k)) + (nI w) = nI (30 * k + w) from (q_addP (q_mulP rfl rfl) rfl)]
        refine G_iald (i := 81) (n := 240) rfl rfl (q_lt (by decide)) (vp_in_nI (by omega) (by decide)) ?_
        rw [q_clamp (n := 30 * k + w) (by omega)]
        rw [show q_i (qS sw gc (q_u (q_u I 73 w (nI k)) 77 k (nI w)) J) 81 (30 * k + w) = I 81 (30 * k + w) from (show (q_u (q_u I 73 w (nI k)) 77 k (nI w)) 81 (30 * k + w) = I 81 (30 * k + w) from (q_un _ _ (by omega)).trans (q_un _ _ (by omega)))]
        refine G_st (L := 89) (k := 0) (223, [some (.ref 62), some (.int (nI c)), some (.int (nI w)), some (.int (nI k)), none, none, none, none], [.int (I 81 (30 * k + w)), .int (nI k), .ref 78], qS sw gc (q_u (q_u I 73 w (nI k)) 77 k (nI w)) J) (q_hn _ _ _ _) rfl ?_
        refine G_iast (i := 78) (n := 8) rfl rfl (q_lt (by decide)) (vp_in_nI (by omega) (by decide)) ?_
        rw [q_clamp (n := k) (by omega)]
        refine G_st (L := 89) (k := 4) (230, [some (.ref 62), some (.int (nI c)), some (.int (nI w)), some (.int (nI k)), none, none, none, none], [.int (nI k), .ref 76, .int (nI k), .ref 76], qS sw gc (q_u (q_u (q_u I 73 w (nI k)) 77 k (nI w)) 78 k (I 81 (30 * k + w))) J) (q_hn _ _ _ _) rfl ?_
        refine G_iald (i := 76) (n := 8) rfl rfl (q_lt (by decide)) (vp_in_nI (by omega) (by decide)) ?_
        rw [q_clamp (n := k) (by omega)]
        rw [show q_i (qS sw gc (q_u (q_u (q_u I 73 w (nI k)) 77 k (nI w)) 78 k (I 81 (30 * k + w))) J) 76 k = I 76 k from (show (q_u (q_u (q_u I 73 w (nI k)) 77 k (nI w)) 78 k (I 81 (30 * k + w))) 76 k = I 76 k from (q_un _ _ (by omega)).trans ((q_un _ _ (by omega)).trans (q_un _ _ (by omega))))]
        refine G_st (L := 89) (k := 2) (233, [some (.ref 62), some (.int (nI c)), some (.int (nI w)), some (.int (nI k)), none, none, none, none], [.int ((I 76 k) + 1), .int (nI k), .ref 76], qS sw gc (q_u (q_u (q_u I 73 w (nI k)) 77 k (nI w)) 78 k (I 81 (30 * k + w))) J) (q_hn _ _ _ _) rfl ?_
        refine G_iast (i := 76) (n := 8) rfl rfl (q_lt (by decide)) (vp_in_nI (by omega) (by decide)) ?_
        rw [q_clamp (n := k) (by omega)]
        refine G_st (L := 89) (k := 3) (19, [some (.ref 62), some (.int ((nI c) + 1)), some (.int ((nI w) + 1)), some (.int (nI k)), none, none, none, none], [], qS sw gc (q_u (q_u (q_u (q_u I 73 w (nI k)) 77 k (nI w)) 78 k (I 81 (30 * k + w))) 76 k ((I 76 k) + 1)) J) (q_hn _ _ _ _) rfl ?_
        rw [show (nI c) + 1 = nI (c + 1) from (q_addP rfl rfl)]
        rw [show (nI w) + 1 = nI (w + 1) from (q_addP rfl rfl)]
        refine G_fg [some (.ref 62), some (.int (nI (c + 1))), some (.int (nI (w + 1))), none, none, none, none, none] (by repeat (first | exact trivial | refine ⟨rfl, ?_⟩)) ?_
        exact ih (w + 1) (c + 1) (r_lt I k w) ((r_lt_gc I k w).trans hmg) (by omega) (by omega)
    cases hmay : r_may I w with
    | true =>
      refine G_st (L := 89) (k := 2) (22, [some (.ref 62), some (.int (nI c)), some (.int (nI w)), none, none, none, none, none], [.int 30, .int (nI w)], qS sw gc I J) (q_hn _ _ _ _) rfl ?_
      refine G_icmp_ge 243 rfl rfl (fun h9 => absurd h9 (nI_ge (b := 30) (by omega) (by decide))) (fun _ => ?_)
      refine G_st (L := 89) (k := 4) (31, [some (.ref 62), some (.int (nI c)), some (.int (nI w)), some (.int (-4)), some (.int 0), none, none, none], [], qS sw gc I J) (q_hn _ _ _ _) rfl ?_
      refine r_lb_loop hmg hg (by omega) hmay (fun b hb he => E b hb ?_) gc 0 none (by omega) trivial rfl
      rw [hmay, he]; rfl
    | false =>
      refine G_st (L := 89) (k := 2) (22, [some (.ref 62), some (.int (nI c)), some (.int (nI w)), none, none, none, none, none], [.int 30, .int (nI w)], qS sw gc I J) (q_hn _ _ _ _) rfl ?_
      refine G_icmp_ge 243 rfl rfl (fun h9 => absurd h9 (nI_ge (b := 30) (by omega) (by decide))) (fun _ => ?_)
      refine G_st (L := 89) (k := 4) (31, [some (.ref 62), some (.int (nI c)), some (.int (nI w)), some (.int (-4)), some (.int 0), none, none, none], [], qS sw gc I J) (q_hn _ _ _ _) rfl ?_
      exact r_lb_no hmg hg (by omega) hmay (E none trivial (by rw [hmay]; rfl))
theorem r_letS {d : Nat} {sw : Bool} {gc : Nat} {I : Nat → Nat → Int32} {J : Nat → Nat → Int64} (hl : ¬ I 62 29 = 0) : GM (d + 1) 127 [.ref 62] (qS sw gc I J) (some (.int (-2))) (qS sw gc I J) := by
  refine GM_of (by decide) (Nat.le_refl _) (Nat.le_of_ble_eq_true rfl) trivial ?_
  refine G_st (L := 89) (k := 0) (0, [some (.ref 62), none, none, none, none, none, none, none], [], qS sw gc I J) (q_hn _ _ _ _) rfl ?_
  refine G_st (L := 89) (k := 2) (4, [some (.ref 62), none, none, none, none, none, none, none], [.int (I 62 29)], qS sw gc I J) (q_hn _ _ _ _) rfl ?_
  refine G_if_eq 10 rfl rfl (fun h9 => absurd h9 hl) (fun _ => ?_)
  refine G_st (L := 89) (k := 1) (9, [some (.ref 62), none, none, none, none, none, none, none], [.int (-2)], qS sw gc I J) (q_hn _ _ _ _) rfl ?_
  exact G_iret rfl rfl rfl rfl
theorem r_let {d : Nat} {sw : Bool} {gc : Nat} {I : Nat → Nat → Int32} {J : Nat → Nat → Int64} (hmg : I 62 20 = nI gc) (hg : gc ≤ 8) (hl : I 62 29 = 0) : GM (d + 1) 127 [.ref 62] (qS sw gc I J) (some (.int (nI (r_letC gc 30 0 (q_u I 62 29 1))))) (qS sw gc (r_letI gc 30 0 (q_u I 62 29 1)) J) := by
  refine GM_of (by decide) (Nat.le_refl _) (Nat.le_of_ble_eq_true rfl) trivial ?_
  refine G_st (L := 89) (k := 0) (0, [some (.ref 62), none, none, none, none, none, none, none], [], qS sw gc I J) (q_hn _ _ _ _) rfl ?_
  refine G_st (L := 89) (k := 2) (4, [some (.ref 62), none, none, none, none, none, none, none], [.int (I 62 29)], qS sw gc I J) (q_hn _ _ _ _) rfl ?_
  refine G_if_eq 10 rfl rfl (fun _ => ?_) (fun h9 => absurd hl h9)
  refine G_st (L := 89) (k := 7) (19, [some (.ref 62), some (.int 0), some (.int 0), none, none, none, none, none], [], qS sw gc (q_u I 62 29 1) J) (q_hn _ _ _ _) rfl ?_
  have h9 := r_let_loop (d := d) (sw := sw) (J := J) hg 30 0 0 (q_u I 62 29 1) hmg rfl (by decide)
  rw [Nat.zero_add] at h9
  exact h9
