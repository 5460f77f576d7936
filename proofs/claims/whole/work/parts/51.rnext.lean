theorem r_nx0 {d : Nat} {sw : Bool} {gc : Nat} {I : Nat → Nat → Int32} {J : Nat → Nat → Int64} {t : Nat → Int32} {l : Nat} (hT : r_Tp I t l) {Iz : Nat → Nat → Int32} {b c v f e : Int32} : ∀ (n p : Nat), l ≤ p + n → p + n ≤ 1000 → G (d + 3) 106 (26, [some (.ref 62), none], [], qS sw gc (r_R I (nI (q_run q_isB t n p)) b c v f e) J) none (qS sw gc Iz J) → G (d + 3) 106 (0, [some (.ref 62), none], [], qS sw gc (r_R I (nI p) b c v f e) J) none (qS sw gc Iz J) := by
  intro n
  induction n with
  | zero =>
    intro p h h2 g
    have hc : ¬ t p = 32 := by rw [hT.2.2.2 p (by omega)]; decide
    refine G_st (L := 89) (k := 3) (5, [some (.ref 62), none], [.int (nI p), .ref 62], qS sw gc (r_R I (nI p) b c v f e) J) (q_hn _ _ _ _) rfl ?_
    rw [show nI p = nI p from rfl]
    refine G_callV (b := 62) (ci := 9) (as := [.int (nI p)]) (rest := []) rfl rfl rfl (q_lt (by decide)) (by decide) rfl rfl (Nat.le_of_ble_eq_true rfl) (r_look (r_Tp_R hT) (by omega)) x_out_n ?_
    refine G_st (L := 89) (k := 1) (10, [some (.ref 62), none], [.int 32, .int (t p)], qS sw gc (r_R I (nI p) b c v f e) J) (q_hn _ _ _ _) rfl ?_
    refine G_icmp_ne 26 rfl rfl (fun _ => ?_) (fun h9 => absurd h9 hc)
    exact g
  | succ n ih =>
    intro p h h2 g
    by_cases hc : t p = 32
    · rw [show q_run q_isB t (n + 1) p = q_run q_isB t n (p + 1) by rw [q_run, q_isB, decide_eq_true hc]; rfl] at g
      refine G_st (L := 89) (k := 3) (5, [some (.ref 62), none], [.int (nI p), .ref 62], qS sw gc (r_R I (nI p) b c v f e) J) (q_hn _ _ _ _) rfl ?_
      rw [show nI p = nI p from rfl]
      refine G_callV (b := 62) (ci := 9) (as := [.int (nI p)]) (rest := []) rfl rfl rfl (q_lt (by decide)) (by decide) rfl rfl (Nat.le_of_ble_eq_true rfl) (r_look (r_Tp_R hT) (by omega)) x_out_n ?_
      refine G_st (L := 89) (k := 1) (10, [some (.ref 62), none], [.int 32, .int (t p)], qS sw gc (r_R I (nI p) b c v f e) J) (q_hn _ _ _ _) rfl ?_
      refine G_icmp_ne 26 rfl rfl (fun h9 => absurd hc h9) (fun _ => ?_)
      refine G_st (L := 89) (k := 7) (0, [some (.ref 62), none], [], qS sw gc (q_u (r_R I (nI p) b c v f e) 62 2 ((nI p) + 1)) J) (q_hn _ _ _ _) rfl ?_
      rw [r_R2]
      rw [show (nI p) + 1 = nI (p + 1) from q_addP rfl rfl]
      exact ih (p + 1) (by omega) (by omega) g
    · rw [show q_run q_isB t (n + 1) p = p by rw [q_run, q_isB, decide_eq_false hc]; rfl] at g
      refine G_st (L := 89) (k := 3) (5, [some (.ref 62), none], [.int (nI p), .ref 62], qS sw gc (r_R I (nI p) b c v f e) J) (q_hn _ _ _ _) rfl ?_
      rw [show nI p = nI p from rfl]
      refine G_callV (b := 62) (ci := 9) (as := [.int (nI p)]) (rest := []) rfl rfl rfl (q_lt (by decide)) (by decide) rfl rfl (Nat.le_of_ble_eq_true rfl) (r_look (r_Tp_R hT) (by omega)) x_out_n ?_
      refine G_st (L := 89) (k := 1) (10, [some (.ref 62), none], [.int 32, .int (t p)], qS sw gc (r_R I (nI p) b c v f e) J) (q_hn _ _ _ _) rfl ?_
      refine G_icmp_ne 26 rfl rfl (fun _ => ?_) (fun h9 => absurd h9 hc)
      exact g
theorem q_isL_t {c : Int32} (h : ¬ f_i3 c 97 122 = 0) : q_isL c = true := by
  show (!decide (f_isLetter c = 0)) = true
  rw [decide_eq_false (show ¬ f_isLetter c = 0 from h)]; rfl
theorem q_isL_f {c : Int32} (h : f_i3 c 97 122 = 0) : q_isL c = false := by
  show (!decide (f_isLetter c = 0)) = false
  rw [decide_eq_true (show f_isLetter c = 0 from h)]; rfl
theorem q_isF_t {c : Int32} (h : ¬ f_i3 c 48 57 = 0) : q_isF c = true := by
  show (!decide (f_isFigure c = 0)) = true
  rw [decide_eq_false (show ¬ f_isFigure c = 0 from h)]; rfl
theorem q_isF_f {c : Int32} (h : f_i3 c 48 57 = 0) : q_isF c = false := by
  show (!decide (f_isFigure c = 0)) = false
  rw [decide_eq_true (show f_isFigure c = 0 from h)]; rfl
set_option maxRecDepth 8000 in
theorem r_nx1 {d : Nat} {sw : Bool} {gc : Nat} {I : Nat → Nat → Int32} {J : Nat → Nat → Int64} {t : Nat → Int32} {l : Nat} (hT : r_Tp I t l) {Iz : Nat → Nat → Int32} {x b c v f e : Int32} : ∀ (n p : Nat), l ≤ p + n → p + n ≤ 1000 → G (d + 3) 106 (108, [some (.ref 62), some (.int x)], [], qS sw gc (r_R I (nI (q_run q_isL t n p)) b c v f e) J) none (qS sw gc Iz J) → G (d + 3) 106 (74, [some (.ref 62), some (.int x)], [], qS sw gc (r_R I (nI p) b c v f e) J) none (qS sw gc Iz J) := by
  intro n
  induction n with
  | zero =>
    intro p h h2 g
    have hc : f_i3 (t p) 97 122 = 0 := by rw [hT.2.2.2 p (by omega)]; decide
    refine G_st (L := 89) (k := 3) (79, [some (.ref 62), some (.int x)], [.int (nI p), .ref 62], qS sw gc (r_R I (nI p) b c v f e) J) (q_hn _ _ _ _) rfl ?_
    rw [show nI p = nI p from rfl]
    refine G_callV (b := 62) (ci := 9) (as := [.int (nI p)]) (rest := []) rfl rfl rfl (q_lt (by decide)) (by decide) rfl rfl (Nat.le_of_ble_eq_true rfl) (r_look (r_Tp_R hT) (by omega)) x_out_n ?_
    refine G_st (L := 89) (k := 3) (89, [some (.ref 62), some (.int x)], [.long 122, .long 97, .long (Int32.toInt64 (t p))], qS sw gc (r_R I (nI p) b c v f e) J) (q_hn _ _ _ _) rfl ?_
    refine G_callS (as := [.long (Int32.toInt64 (t p)), .long 97, .long 122]) (rest := []) rfl rfl rfl (Nat.le_of_ble_eq_true rfl) (r_in (lo := 97) (hi := 122) rfl rfl) x_out_n ?_
    refine G_st (L := 89) (k := 0) (92, [some (.ref 62), some (.int x)], [.int (f_i3 (t p) 97 122)], qS sw gc (r_R I (nI p) b c v f e) J) (q_hn _ _ _ _) rfl ?_
    refine G_if_eq 108 rfl rfl (fun _ => ?_) (fun h9 => absurd hc h9)
    exact g
  | succ n ih =>
    intro p h h2 g
    by_cases hc : f_i3 (t p) 97 122 = 0
    · rw [show q_run q_isL t (n + 1) p = p by rw [q_run, q_isL_f hc]; rfl] at g
      refine G_st (L := 89) (k := 3) (79, [some (.ref 62), some (.int x)], [.int (nI p), .ref 62], qS sw gc (r_R I (nI p) b c v f e) J) (q_hn _ _ _ _) rfl ?_
      rw [show nI p = nI p from rfl]
      refine G_callV (b := 62) (ci := 9) (as := [.int (nI p)]) (rest := []) rfl rfl rfl (q_lt (by decide)) (by decide) rfl rfl (Nat.le_of_ble_eq_true rfl) (r_look (r_Tp_R hT) (by omega)) x_out_n ?_
      refine G_st (L := 89) (k := 3) (89, [some (.ref 62), some (.int x)], [.long 122, .long 97, .long (Int32.toInt64 (t p))], qS sw gc (r_R I (nI p) b c v f e) J) (q_hn _ _ _ _) rfl ?_
      refine G_callS (as := [.long (Int32.toInt64 (t p)), .long 97, .long 122]) (rest := []) rfl rfl rfl (Nat.le_of_ble_eq_true rfl) (r_in (lo := 97) (hi := 122) rfl rfl) x_out_n ?_
      refine G_st (L := 89) (k := 0) (92, [some (.ref 62), some (.int x)], [.int (f_i3 (t p) 97 122)], qS sw gc (r_R I (nI p) b c v f e) J) (q_hn _ _ _ _) rfl ?_
      refine G_if_eq 108 rfl rfl (fun _ => ?_) (fun h9 => absurd hc h9)
      exact g
    · rw [show q_run q_isL t (n + 1) p = q_run q_isL t n (p + 1) by rw [q_run, q_isL_t hc]; rfl] at g
      refine G_st (L := 89) (k := 3) (79, [some (.ref 62), some (.int x)], [.int (nI p), .ref 62], qS sw gc (r_R I (nI p) b c v f e) J) (q_hn _ _ _ _) rfl ?_
      rw [show nI p = nI p from rfl]
      refine G_callV (b := 62) (ci := 9) (as := [.int (nI p)]) (rest := []) rfl rfl rfl (q_lt (by decide)) (by decide) rfl rfl (Nat.le_of_ble_eq_true rfl) (r_look (r_Tp_R hT) (by omega)) x_out_n ?_
      refine G_st (L := 89) (k := 3) (89, [some (.ref 62), some (.int x)], [.long 122, .long 97, .long (Int32.toInt64 (t p))], qS sw gc (r_R I (nI p) b c v f e) J) (q_hn _ _ _ _) rfl ?_
      refine G_callS (as := [.long (Int32.toInt64 (t p)), .long 97, .long 122]) (rest := []) rfl rfl rfl (Nat.le_of_ble_eq_true rfl) (r_in (lo := 97) (hi := 122) rfl rfl) x_out_n ?_
      refine G_st (L := 89) (k := 0) (92, [some (.ref 62), some (.int x)], [.int (f_i3 (t p) 97 122)], qS sw gc (r_R I (nI p) b c v f e) J) (q_hn _ _ _ _) rfl ?_
      refine G_if_eq 108 rfl rfl (fun h9 => absurd h9 hc) (fun _ => ?_)
      refine G_st (L := 89) (k := 7) (74, [some (.ref 62), some (.int x)], [], qS sw gc (q_u (r_R I (nI p) b c v f e) 62 2 ((nI p) + 1)) J) (q_hn _ _ _ _) rfl ?_
      rw [r_R2]
      rw [show (nI p) + 1 = nI (p + 1) from q_addP rfl rfl]
      exact ih (p + 1) (by omega) (by omega) g
def r_nv (t : Nat → Int32) (q : Nat) : Nat → Nat → Int32 → Int32
  | 0, _, v => v
  | n + 1, p, v => cond (q_isF (t p)) (r_nv t q n (p + 1) (if p - q < 4 then (10 * v + t p) - 48 else v)) v
theorem r_nv_val {t : Nat → Int32} {q : Nat} : ∀ (n p : Nat) (v : Int32), q ≤ p → q_run q_isF t n p - q ≤ 4 → r_nv t q n p v = q_val t n p v
  | 0, _, _, _, _ => rfl
  | n + 1, p, v, h, h4 => by
    unfold r_nv q_val
    unfold q_run at h4
    cases hc : q_isF (t p) with
    | false => rfl
    | true =>
      rw [hc] at h4
      have h5 := (q_run_ge q_isF t n (p + 1)).1
      have h6 : q_run q_isF t n (p + 1) - q ≤ 4 := h4
      rw [if_pos (by omega)]
      exact r_nv_val n (p + 1) _ (by omega) h6
set_option maxRecDepth 8000 in
theorem r_nx2 {d : Nat} {sw : Bool} {gc : Nat} {I : Nat → Nat → Int32} {J : Nat → Nat → Int64} {t : Nat → Int32} {l : Nat} (hT : r_Tp I t l) {Iz : Nat → Nat → Int32} {x c f e : Int32} {q : Nat} : ∀ (n p : Nat) (v : Int32), l ≤ p + n → p + n ≤ 1000 → q ≤ p → G (d + 3) 106 (238, [some (.ref 62), some (.int x)], [], qS sw gc (r_R I (nI (q_run q_isF t n p)) (nI q) c (r_nv t q n p v) f e) J) none (qS sw gc Iz J) → G (d + 3) 106 (161, [some (.ref 62), some (.int x)], [], qS sw gc (r_R I (nI p) (nI q) c v f e) J) none (qS sw gc Iz J) := by
  intro n
  induction n with
  | zero =>
    intro p v h h2 hq g
    have hc : f_i3 (t p) 48 57 = 0 := by rw [hT.2.2.2 p (by omega)]; decide
    refine G_st (L := 89) (k := 3) (166, [some (.ref 62), some (.int x)], [.int (nI p), .ref 62], qS sw gc (r_R I (nI p) (nI q) c v f e) J) (q_hn _ _ _ _) rfl ?_
    rw [show nI p = nI p from rfl]
    refine G_callV (b := 62) (ci := 9) (as := [.int (nI p)]) (rest := []) rfl rfl rfl (q_lt (by decide)) (by decide) rfl rfl (Nat.le_of_ble_eq_true rfl) (r_look (r_Tp_R hT) (by omega)) x_out_n ?_
    refine G_st (L := 89) (k := 3) (176, [some (.ref 62), some (.int x)], [.long 57, .long 48, .long (Int32.toInt64 (t p))], qS sw gc (r_R I (nI p) (nI q) c v f e) J) (q_hn _ _ _ _) rfl ?_
    refine G_callS (as := [.long (Int32.toInt64 (t p)), .long 48, .long 57]) (rest := []) rfl rfl rfl (Nat.le_of_ble_eq_true rfl) (r_in (lo := 48) (hi := 57) rfl rfl) x_out_n ?_
    refine G_st (L := 89) (k := 0) (179, [some (.ref 62), some (.int x)], [.int (f_i3 (t p) 48 57)], qS sw gc (r_R I (nI p) (nI q) c v f e) J) (q_hn _ _ _ _) rfl ?_
    refine G_if_eq 238 rfl rfl (fun _ => ?_) (fun h9 => absurd hc h9)
    exact g
  | succ n ih =>
    intro p v h h2 hq g
    by_cases hc : f_i3 (t p) 48 57 = 0
    · rw [show q_run q_isF t (n + 1) p = p by rw [q_run, q_isF_f hc]; rfl, show r_nv t q (n + 1) p v = v by rw [r_nv, q_isF_f hc]; rfl] at g
      refine G_st (L := 89) (k := 3) (166, [some (.ref 62), some (.int x)], [.int (nI p), .ref 62], qS sw gc (r_R I (nI p) (nI q) c v f e) J) (q_hn _ _ _ _) rfl ?_
      rw [show nI p = nI p from rfl]
      refine G_callV (b := 62) (ci := 9) (as := [.int (nI p)]) (rest := []) rfl rfl rfl (q_lt (by decide)) (by decide) rfl rfl (Nat.le_of_ble_eq_true rfl) (r_look (r_Tp_R hT) (by omega)) x_out_n ?_
      refine G_st (L := 89) (k := 3) (176, [some (.ref 62), some (.int x)], [.long 57, .long 48, .long (Int32.toInt64 (t p))], qS sw gc (r_R I (nI p) (nI q) c v f e) J) (q_hn _ _ _ _) rfl ?_
      refine G_callS (as := [.long (Int32.toInt64 (t p)), .long 48, .long 57]) (rest := []) rfl rfl rfl (Nat.le_of_ble_eq_true rfl) (r_in (lo := 48) (hi := 57) rfl rfl) x_out_n ?_
      refine G_st (L := 89) (k := 0) (179, [some (.ref 62), some (.int x)], [.int (f_i3 (t p) 48 57)], qS sw gc (r_R I (nI p) (nI q) c v f e) J) (q_hn _ _ _ _) rfl ?_
      refine G_if_eq 238 rfl rfl (fun _ => ?_) (fun h9 => absurd hc h9)
      exact g
    · rw [show q_run q_isF t (n + 1) p = q_run q_isF t n (p + 1) by rw [q_run, q_isF_t hc]; rfl, show r_nv t q (n + 1) p v = r_nv t q n (p + 1) (if p - q < 4 then (10 * v + t p) - 48 else v) by rw [r_nv, q_isF_t hc]; rfl] at g
      by_cases h4 : p - q < 4
      · rw [if_pos h4] at g
        refine G_st (L := 89) (k := 3) (166, [some (.ref 62), some (.int x)], [.int (nI p), .ref 62], qS sw gc (r_R I (nI p) (nI q) c v f e) J) (q_hn _ _ _ _) rfl ?_
        rw [show nI p = nI p from rfl]
        refine G_callV (b := 62) (ci := 9) (as := [.int (nI p)]) (rest := []) rfl rfl rfl (q_lt (by decide)) (by decide) rfl rfl (Nat.le_of_ble_eq_true rfl) (r_look (r_Tp_R hT) (by omega)) x_out_n ?_
        refine G_st (L := 89) (k := 3) (176, [some (.ref 62), some (.int x)], [.long 57, .long 48, .long (Int32.toInt64 (t p))], qS sw gc (r_R I (nI p) (nI q) c v f e) J) (q_hn _ _ _ _) rfl ?_
        refine G_callS (as := [.long (Int32.toInt64 (t p)), .long 48, .long 57]) (rest := []) rfl rfl rfl (Nat.le_of_ble_eq_true rfl) (r_in (lo := 48) (hi := 57) rfl rfl) x_out_n ?_
        refine G_st (L := 89) (k := 0) (179, [some (.ref 62), some (.int x)], [.int (f_i3 (t p) 48 57)], qS sw gc (r_R I (nI p) (nI q) c v f e) J) (q_hn _ _ _ _) rfl ?_
        refine G_if_eq 238 rfl rfl (fun h9 => absurd h9 hc) (fun _ => ?_)
        refine G_st (L := 89) (k := 7) (193, [some (.ref 62), some (.int x)], [.int 4, .int ((nI p) - (nI q)), .ref 62], qS sw gc (r_R I (nI p) (nI q) c v f e) J) (q_hn _ _ _ _) rfl ?_
        rw [show (nI p) - (nI q) = nI (p - q) from (q_subP rfl rfl (by omega))]
        refine G_icmp_ge 218 rfl rfl (fun h9 => absurd h9 (nI_ge (b := 4) (by omega) (by decide))) (fun _ => ?_)
        refine G_st (L := 89) (k := 7) (208, [some (.ref 62), some (.int x)], [.int (nI p), .ref 62, .int (10 * v), .ref 62], qS sw gc (r_R I (nI p) (nI q) c v f e) J) (q_hn _ _ _ _) rfl ?_
        rw [show nI p = nI p from rfl]
        refine G_callV (b := 62) (ci := 9) (as := [.int (nI p)]) (rest := [.int (10 * v), .ref 62]) rfl rfl rfl (q_lt (by decide)) (by decide) rfl rfl (Nat.le_of_ble_eq_true rfl) (r_look (r_Tp_R hT) (by omega)) x_out_n ?_
        refine G_st (L := 89) (k := 12) (161, [some (.ref 62), some (.int x)], [], qS sw gc (q_u (q_u (r_R I (nI p) (nI q) c v f e) 62 5 (((10 * v) + (t p)) - 48)) 62 2 ((nI p) + 1)) J) (q_hn _ _ _ _) rfl ?_
        rw [r_R5]
        rw [r_R2]
        rw [show (nI p) + 1 = nI (p + 1) from q_addP rfl rfl]
        exact ih (p + 1) _ (by omega) (by omega) (by omega) g
      · rw [if_neg h4] at g
        refine G_st (L := 89) (k := 3) (166, [some (.ref 62), some (.int x)], [.int (nI p), .ref 62], qS sw gc (r_R I (nI p) (nI q) c v f e) J) (q_hn _ _ _ _) rfl ?_
        rw [show nI p = nI p from rfl]
        refine G_callV (b := 62) (ci := 9) (as := [.int (nI p)]) (rest := []) rfl rfl rfl (q_lt (by decide)) (by decide) rfl rfl (Nat.le_of_ble_eq_true rfl) (r_look (r_Tp_R hT) (by omega)) x_out_n ?_
        refine G_st (L := 89) (k := 3) (176, [some (.ref 62), some (.int x)], [.long 57, .long 48, .long (Int32.toInt64 (t p))], qS sw gc (r_R I (nI p) (nI q) c v f e) J) (q_hn _ _ _ _) rfl ?_
        refine G_callS (as := [.long (Int32.toInt64 (t p)), .long 48, .long 57]) (rest := []) rfl rfl rfl (Nat.le_of_ble_eq_true rfl) (r_in (lo := 48) (hi := 57) rfl rfl) x_out_n ?_
        refine G_st (L := 89) (k := 0) (179, [some (.ref 62), some (.int x)], [.int (f_i3 (t p) 48 57)], qS sw gc (r_R I (nI p) (nI q) c v f e) J) (q_hn _ _ _ _) rfl ?_
        refine G_if_eq 238 rfl rfl (fun h9 => absurd h9 hc) (fun _ => ?_)
        refine G_st (L := 89) (k := 7) (193, [some (.ref 62), some (.int x)], [.int 4, .int ((nI p) - (nI q)), .ref 62], qS sw gc (r_R I (nI p) (nI q) c v f e) J) (q_hn _ _ _ _) rfl ?_
        rw [show (nI p) - (nI q) = nI (p - q) from (q_subP rfl rfl (by omega))]
        refine G_icmp_ge 218 rfl rfl (fun _ => ?_) (fun h9 => absurd (nI_le (a := 4) (by omega) (by omega)) h9)
        refine G_st (L := 89) (k := 10) (161, [some (.ref 62), some (.int x)], [], qS sw gc (q_u (q_u (r_R I (nI p) (nI q) c v f e) 62 5 v) 62 2 ((nI p) + 1)) J) (q_hn _ _ _ _) rfl ?_
        rw [r_R5]
        rw [r_R2]
        rw [show (nI p) + 1 = nI (p + 1) from q_addP rfl rfl]
        exact ih (p + 1) _ (by omega) (by omega) (by omega) g
theorem r_Tp.neg {I : Nat → Nat → Int32} {t : Nat → Int32} {l q : Nat} (hT : r_Tp I t l) (h : t q = -1) : ¬ 0 ≤ t q := by rw [h]; decide
theorem r_Tp.nn {I : Nat → Nat → Int32} {t : Nat → Int32} {l q : Nat} (hT : r_Tp I t l) (h : ¬ t q = -1) : 0 ≤ t q := by
  rcases Nat.lt_or_ge q l with h1 | h1
  · exact Int32.not_lt.mp (hT.2.2.1 q h1).2
  · exact absurd (hT.2.2.2 q h1) h
set_option maxRecDepth 8000 in
theorem r_nxE {d : Nat} {sw : Bool} {gc : Nat} {I : Nat → Nat → Int32} {J : Nat → Nat → Int64} {t : Nat → Int32} {l : Nat} (hT : r_Tp I t l) {b c v e : Int32} {q : Nat} (hq : q ≤ l) (h0 : t q = -1) : G (d + 3) 106 (26, [some (.ref 62), none], [], qS sw gc (r_R I (nI q) b c v 0 e) J) none (qS sw gc (r_R I (nI q) (nI q) 0 v 0 e) J) := by
  have hl2 := hT.2.1
  refine G_st (L := 89) (k := 7) (39, [some (.ref 62), none], [.int (nI q), .ref 62], qS sw gc (q_u (r_R I (nI q) b c v 0 e) 62 3 (nI q)) J) (q_hn _ _ _ _) rfl ?_
  rw [show nI q = nI q from rfl]
  rw [r_R3]
  refine G_callV (b := 62) (ci := 9) (as := [.int (nI q)]) (rest := []) rfl rfl rfl (q_lt (by decide)) (by decide) rfl rfl (Nat.le_of_ble_eq_true rfl) (r_look (r_Tp_R hT) (by omega)) x_out_n ?_
  refine G_st (L := 89) (k := 2) (44, [some (.ref 62), some (.int (t q))], [.int (t q)], qS sw gc (r_R I (nI q) (nI q) c v 0 e) J) (q_hn _ _ _ _) rfl ?_
  refine G_if_ge 55 rfl rfl (fun h9 => absurd h9 (hT.neg h0)) (fun _ => ?_)
  refine G_st (L := 89) (k := 4) (296, [some (.ref 62), some (.int (t q))], [], qS sw gc (q_u (r_R I (nI q) (nI q) c v 0 e) 62 4 0) J) (q_hn _ _ _ _) rfl ?_
  rw [r_R4]
  exact G_ret rfl rfl rfl rfl
set_option maxRecDepth 8000 in
theorem r_nxN0 {d : Nat} {sw : Bool} {gc : Nat} {I : Nat → Nat → Int32} {J : Nat → Nat → Int64} {t : Nat → Int32} {l : Nat} (hT : r_Tp I t l) {b c v e : Int32} {q : Nat} (hq : q ≤ l) (h0 : ¬ t q = -1) (h1 : ¬ f_i3 (t q) 97 122 = 0) {n : Nat} (hn : q_run q_isL t 200 q = n) (hw : ¬ t_w0 t q n (-4) = -4) : G (d + 3) 106 (26, [some (.ref 62), none], [], qS sw gc (r_R I (nI q) b c v 0 e) J) none (qS sw gc (r_R I (nI n) (nI q) 1 (t_w0 t q n (-4)) 0 e) J) := by
  have hl2 := hT.2.1
  refine G_st (L := 89) (k := 7) (39, [some (.ref 62), none], [.int (nI q), .ref 62], qS sw gc (q_u (r_R I (nI q) b c v 0 e) 62 3 (nI q)) J) (q_hn _ _ _ _) rfl ?_
  rw [show nI q = nI q from rfl]
  rw [r_R3]
  refine G_callV (b := 62) (ci := 9) (as := [.int (nI q)]) (rest := []) rfl rfl rfl (q_lt (by decide)) (by decide) rfl rfl (Nat.le_of_ble_eq_true rfl) (r_look (r_Tp_R hT) (by omega)) x_out_n ?_
  refine G_st (L := 89) (k := 2) (44, [some (.ref 62), some (.int (t q))], [.int (t q)], qS sw gc (r_R I (nI q) (nI q) c v 0 e) J) (q_hn _ _ _ _) rfl ?_
  refine G_if_ge 55 rfl rfl (fun _ => ?_) (fun h9 => absurd (hT.nn h0) h9)
  refine G_st (L := 89) (k := 4) (63, [some (.ref 62), some (.int (t q))], [.long 122, .long 97, .long (Int32.toInt64 (t q))], qS sw gc (r_R I (nI q) (nI q) c v 0 e) J) (q_hn _ _ _ _) rfl ?_
  refine G_callS (as := [.long (Int32.toInt64 (t q)), .long 97, .long 122]) (rest := []) rfl rfl rfl (Nat.le_of_ble_eq_true rfl) (r_in (lo := 97) (hi := 122) rfl rfl) x_out_n ?_
  refine G_st (L := 89) (k := 0) (66, [some (.ref 62), some (.int (t q))], [.int (f_i3 (t q) 97 122)], qS sw gc (r_R I (nI q) (nI q) c v 0 e) J) (q_hn _ _ _ _) rfl ?_
  refine G_if_eq 137 rfl rfl (fun h9 => absurd h9 h1) (fun _ => ?_)
  refine G_st (L := 89) (k := 3) (74, [some (.ref 62), some (.int (t q))], [], qS sw gc (q_u (r_R I (nI q) (nI q) c v 0 e) 62 4 1) J) (q_hn _ _ _ _) rfl ?_
  rw [r_R4]
  have hge := q_run_ge q_isL t 200 q
  refine r_nx1 hT 200 q (by omega) (by omega) ?_
  rw [hn]
  rw [hn] at hge
  refine G_st (L := 89) (k := 2) (110, [some (.ref 62), some (.int (t q))], [.ref 62, .ref 62], qS sw gc (r_R I (nI n) (nI q) 1 v 0 e) J) (q_hn _ _ _ _) rfl ?_
  refine G_callV (b := 62) (ci := 9) (as := []) (rest := [.ref 62]) rfl rfl rfl (q_lt (by decide)) (by decide) rfl rfl (Nat.le_of_ble_eq_true rfl) (r_nameNow hT (by omega) (by omega)) x_out_n ?_
  refine G_st (L := 89) (k := 4) (122, [some (.ref 62), some (.int (t q))], [.int (-4), .int (t_w0 t q n (-4))], qS sw gc (q_u (r_R I (nI n) (nI q) 1 v 0 e) 62 5 (t_w0 t q n (-4))) J) (q_hn _ _ _ _) rfl ?_
  rw [r_R5]
  refine G_icmp_ne 296 rfl rfl (fun _ => ?_) (fun h9 => absurd h9 hw)
  exact G_ret rfl rfl rfl rfl
set_option maxRecDepth 8000 in
theorem r_nxN1 {d : Nat} {sw : Bool} {gc : Nat} {I : Nat → Nat → Int32} {J : Nat → Nat → Int64} {t : Nat → Int32} {l : Nat} (hT : r_Tp I t l) {b c v e : Int32} {q : Nat} (hq : q ≤ l) (h0 : ¬ t q = -1) (h1 : ¬ f_i3 (t q) 97 122 = 0) {n : Nat} (hn : q_run q_isL t 200 q = n) (hw : t_w0 t q n (-4) = -4) : G (d + 3) 106 (26, [some (.ref 62), none], [], qS sw gc (r_R I (nI q) b c v 0 e) J) none (qS sw gc (r_R I (nI n) (nI q) 1 (t_w0 t q n (-4)) 1 (nI q)) J) := by
  have hl2 := hT.2.1
  refine G_st (L := 89) (k := 7) (39, [some (.ref 62), none], [.int (nI q), .ref 62], qS sw gc (q_u (r_R I (nI q) b c v 0 e) 62 3 (nI q)) J) (q_hn _ _ _ _) rfl ?_
  rw [show nI q = nI q from rfl]
  rw [r_R3]
  refine G_callV (b := 62) (ci := 9) (as := [.int (nI q)]) (rest := []) rfl rfl rfl (q_lt (by decide)) (by decide) rfl rfl (Nat.le_of_ble_eq_true rfl) (r_look (r_Tp_R hT) (by omega)) x_out_n ?_
  refine G_st (L := 89) (k := 2) (44, [some (.ref 62), some (.int (t q))], [.int (t q)], qS sw gc (r_R I (nI q) (nI q) c v 0 e) J) (q_hn _ _ _ _) rfl ?_
  refine G_if_ge 55 rfl rfl (fun _ => ?_) (fun h9 => absurd (hT.nn h0) h9)
  refine G_st (L := 89) (k := 4) (63, [some (.ref 62), some (.int (t q))], [.long 122, .long 97, .long (Int32.toInt64 (t q))], qS sw gc (r_R I (nI q) (nI q) c v 0 e) J) (q_hn _ _ _ _) rfl ?_
  refine G_callS (as := [.long (Int32.toInt64 (t q)), .long 97, .long 122]) (rest := []) rfl rfl rfl (Nat.le_of_ble_eq_true rfl) (r_in (lo := 97) (hi := 122) rfl rfl) x_out_n ?_
  refine G_st (L := 89) (k := 0) (66, [some (.ref 62), some (.int (t q))], [.int (f_i3 (t q) 97 122)], qS sw gc (r_R I (nI q) (nI q) c v 0 e) J) (q_hn _ _ _ _) rfl ?_
  refine G_if_eq 137 rfl rfl (fun h9 => absurd h9 h1) (fun _ => ?_)
  refine G_st (L := 89) (k := 3) (74, [some (.ref 62), some (.int (t q))], [], qS sw gc (q_u (r_R I (nI q) (nI q) c v 0 e) 62 4 1) J) (q_hn _ _ _ _) rfl ?_
  rw [r_R4]
  have hge := q_run_ge q_isL t 200 q
  refine r_nx1 hT 200 q (by omega) (by omega) ?_
  rw [hn]
  rw [hn] at hge
  refine G_st (L := 89) (k := 2) (110, [some (.ref 62), some (.int (t q))], [.ref 62, .ref 62], qS sw gc (r_R I (nI n) (nI q) 1 v 0 e) J) (q_hn _ _ _ _) rfl ?_
  refine G_callV (b := 62) (ci := 9) (as := []) (rest := [.ref 62]) rfl rfl rfl (q_lt (by decide)) (by decide) rfl rfl (Nat.le_of_ble_eq_true rfl) (r_nameNow hT (by omega) (by omega)) x_out_n ?_
  refine G_st (L := 89) (k := 4) (122, [some (.ref 62), some (.int (t q))], [.int (-4), .int (t_w0 t q n (-4))], qS sw gc (q_u (r_R I (nI n) (nI q) 1 v 0 e) 62 5 (t_w0 t q n (-4))) J) (q_hn _ _ _ _) rfl ?_
  rw [r_R5]
  refine G_icmp_ne 296 rfl rfl (fun h9 => absurd hw h9) (fun _ => ?_)
  refine G_st (L := 89) (k := 4) (131, [some (.ref 62), some (.int (t q))], [.int (nI q), .int 1, .ref 62], qS sw gc (r_R I (nI n) (nI q) 1 (t_w0 t q n (-4)) 0 e) J) (q_hn _ _ _ _) rfl ?_
  rw [show nI q = nI q from rfl]
  refine G_callV (b := 62) (ci := 9) (as := [.int 1, .int (nI q)]) (rest := []) rfl rfl rfl (q_lt (by decide)) (by decide) rfl rfl (Nat.le_of_ble_eq_true rfl) r_fails0 x_out_n ?_
  refine G_st (L := 89) (k := 1) (296, [some (.ref 62), some (.int (t q))], [], qS sw gc (r_R I (nI n) (nI q) 1 (t_w0 t q n (-4)) 1 (nI q)) J) (q_hn _ _ _ _) rfl ?_
  exact G_ret rfl rfl rfl rfl
set_option maxRecDepth 8000 in
theorem r_nxF0 {d : Nat} {sw : Bool} {gc : Nat} {I : Nat → Nat → Int32} {J : Nat → Nat → Int64} {t : Nat → Int32} {l : Nat} (hT : r_Tp I t l) {b c v e : Int32} {q : Nat} (hq : q ≤ l) (h0 : ¬ t q = -1) (h1 : f_i3 (t q) 97 122 = 0) (h2 : ¬ f_i3 (t q) 48 57 = 0) {n : Nat} (hn : q_run q_isF t 200 q = n) (hw : n - q ≤ 4) : G (d + 3) 106 (26, [some (.ref 62), none], [], qS sw gc (r_R I (nI q) b c v 0 e) J) none (qS sw gc (r_R I (nI n) (nI q) 2 (r_nv t q 200 q 0) 0 e) J) := by
  have hl2 := hT.2.1
  refine G_st (L := 89) (k := 7) (39, [some (.ref 62), none], [.int (nI q), .ref 62], qS sw gc (q_u (r_R I (nI q) b c v 0 e) 62 3 (nI q)) J) (q_hn _ _ _ _) rfl ?_
  rw [show nI q = nI q from rfl]
  rw [r_R3]
  refine G_callV (b := 62) (ci := 9) (as := [.int (nI q)]) (rest := []) rfl rfl rfl (q_lt (by decide)) (by decide) rfl rfl (Nat.le_of_ble_eq_true rfl) (r_look (r_Tp_R hT) (by omega)) x_out_n ?_
  refine G_st (L := 89) (k := 2) (44, [some (.ref 62), some (.int (t q))], [.int (t q)], qS sw gc (r_R I (nI q) (nI q) c v 0 e) J) (q_hn _ _ _ _) rfl ?_
  refine G_if_ge 55 rfl rfl (fun _ => ?_) (fun h9 => absurd (hT.nn h0) h9)
  refine G_st (L := 89) (k := 4) (63, [some (.ref 62), some (.int (t q))], [.long 122, .long 97, .long (Int32.toInt64 (t q))], qS sw gc (r_R I (nI q) (nI q) c v 0 e) J) (q_hn _ _ _ _) rfl ?_
  refine G_callS (as := [.long (Int32.toInt64 (t q)), .long 97, .long 122]) (rest := []) rfl rfl rfl (Nat.le_of_ble_eq_true rfl) (r_in (lo := 97) (hi := 122) rfl rfl) x_out_n ?_
  refine G_st (L := 89) (k := 0) (66, [some (.ref 62), some (.int (t q))], [.int (f_i3 (t q) 97 122)], qS sw gc (r_R I (nI q) (nI q) c v 0 e) J) (q_hn _ _ _ _) rfl ?_
  refine G_if_eq 137 rfl rfl (fun _ => ?_) (fun h9 => absurd h1 h9)
  refine G_st (L := 89) (k := 4) (145, [some (.ref 62), some (.int (t q))], [.long 57, .long 48, .long (Int32.toInt64 (t q))], qS sw gc (r_R I (nI q) (nI q) c v 0 e) J) (q_hn _ _ _ _) rfl ?_
  refine G_callS (as := [.long (Int32.toInt64 (t q)), .long 48, .long 57]) (rest := []) rfl rfl rfl (Nat.le_of_ble_eq_true rfl) (r_in (lo := 48) (hi := 57) rfl rfl) x_out_n ?_
  refine G_st (L := 89) (k := 0) (148, [some (.ref 62), some (.int (t q))], [.int (f_i3 (t q) 48 57)], qS sw gc (r_R I (nI q) (nI q) c v 0 e) J) (q_hn _ _ _ _) rfl ?_
  refine G_if_eq 263 rfl rfl (fun h9 => absurd h9 h2) (fun _ => ?_)
  refine G_st (L := 89) (k := 6) (161, [some (.ref 62), some (.int (t q))], [], qS sw gc (q_u (q_u (r_R I (nI q) (nI q) c v 0 e) 62 4 2) 62 5 0) J) (q_hn _ _ _ _) rfl ?_
  rw [r_R4]
  rw [r_R5]
  have hge := q_run_ge q_isF t 200 q
  refine r_nx2 hT 200 q 0 (by omega) (by omega) (Nat.le_refl _) ?_
  rw [hn]
  rw [hn] at hge
  refine G_st (L := 89) (k := 6) (248, [some (.ref 62), some (.int (t q))], [.int 4, .int ((nI n) - (nI q))], qS sw gc (r_R I (nI n) (nI q) 2 (r_nv t q 200 q 0) 0 e) J) (q_hn _ _ _ _) rfl ?_
  rw [show (nI n) - (nI q) = nI (n - q) from (q_subP rfl rfl (by omega))]
  refine G_icmp_le 296 rfl rfl (fun _ => ?_) (fun h9 => absurd (nI_le (b := 4) hw (by decide)) h9)
  exact G_ret rfl rfl rfl rfl
set_option maxRecDepth 8000 in
theorem r_nxF1 {d : Nat} {sw : Bool} {gc : Nat} {I : Nat → Nat → Int32} {J : Nat → Nat → Int64} {t : Nat → Int32} {l : Nat} (hT : r_Tp I t l) {b c v e : Int32} {q : Nat} (hq : q ≤ l) (h0 : ¬ t q = -1) (h1 : f_i3 (t q) 97 122 = 0) (h2 : ¬ f_i3 (t q) 48 57 = 0) {n : Nat} (hn : q_run q_isF t 200 q = n) (hw : ¬ n - q ≤ 4) : G (d + 3) 106 (26, [some (.ref 62), none], [], qS sw gc (r_R I (nI q) b c v 0 e) J) none (qS sw gc (r_R I (nI n) (nI q) 2 (r_nv t q 200 q 0) 1 (nI q)) J) := by
  have hl2 := hT.2.1
  refine G_st (L := 89) (k := 7) (39, [some (.ref 62), none], [.int (nI q), .ref 62], qS sw gc (q_u (r_R I (nI q) b c v 0 e) 62 3 (nI q)) J) (q_hn _ _ _ _) rfl ?_
  rw [show nI q = nI q from rfl]
  rw [r_R3]
  refine G_callV (b := 62) (ci := 9) (as := [.int (nI q)]) (rest := []) rfl rfl rfl (q_lt (by decide)) (by decide) rfl rfl (Nat.le_of_ble_eq_true rfl) (r_look (r_Tp_R hT) (by omega)) x_out_n ?_
  refine G_st (L := 89) (k := 2) (44, [some (.ref 62), some (.int (t q))], [.int (t q)], qS sw gc (r_R I (nI q) (nI q) c v 0 e) J) (q_hn _ _ _ _) rfl ?_
  refine G_if_ge 55 rfl rfl (fun _ => ?_) (fun h9 => absurd (hT.nn h0) h9)
  refine G_st (L := 89) (k := 4) (63, [some (.ref 62), some (.int (t q))], [.long 122, .long 97, .long (Int32.toInt64 (t q))], qS sw gc (r_R I (nI q) (nI q) c v 0 e) J) (q_hn _ _ _ _) rfl ?_
  refine G_callS (as := [.long (Int32.toInt64 (t q)), .long 97, .long 122]) (rest := []) rfl rfl rfl (Nat.le_of_ble_eq_true rfl) (r_in (lo := 97) (hi := 122) rfl rfl) x_out_n ?_
  refine G_st (L := 89) (k := 0) (66, [some (.ref 62), some (.int (t q))], [.int (f_i3 (t q) 97 122)], qS sw gc (r_R I (nI q) (nI q) c v 0 e) J) (q_hn _ _ _ _) rfl ?_
  refine G_if_eq 137 rfl rfl (fun _ => ?_) (fun h9 => absurd h1 h9)
  refine G_st (L := 89) (k := 4) (145, [some (.ref 62), some (.int (t q))], [.long 57, .long 48, .long (Int32.toInt64 (t q))], qS sw gc (r_R I (nI q) (nI q) c v 0 e) J) (q_hn _ _ _ _) rfl ?_
  refine G_callS (as := [.long (Int32.toInt64 (t q)), .long 48, .long 57]) (rest := []) rfl rfl rfl (Nat.le_of_ble_eq_true rfl) (r_in (lo := 48) (hi := 57) rfl rfl) x_out_n ?_
  refine G_st (L := 89) (k := 0) (148, [some (.ref 62), some (.int (t q))], [.int (f_i3 (t q) 48 57)], qS sw gc (r_R I (nI q) (nI q) c v 0 e) J) (q_hn _ _ _ _) rfl ?_
  refine G_if_eq 263 rfl rfl (fun h9 => absurd h9 h2) (fun _ => ?_)
  refine G_st (L := 89) (k := 6) (161, [some (.ref 62), some (.int (t q))], [], qS sw gc (q_u (q_u (r_R I (nI q) (nI q) c v 0 e) 62 4 2) 62 5 0) J) (q_hn _ _ _ _) rfl ?_
  rw [r_R4]
  rw [r_R5]
  have hge := q_run_ge q_isF t 200 q
  refine r_nx2 hT 200 q 0 (by omega) (by omega) (Nat.le_refl _) ?_
  rw [hn]
  rw [hn] at hge
  refine G_st (L := 89) (k := 6) (248, [some (.ref 62), some (.int (t q))], [.int 4, .int ((nI n) - (nI q))], qS sw gc (r_R I (nI n) (nI q) 2 (r_nv t q 200 q 0) 0 e) J) (q_hn _ _ _ _) rfl ?_
  rw [show (nI n) - (nI q) = nI (n - q) from (q_subP rfl rfl (by omega))]
  refine G_icmp_le 296 rfl rfl (fun h9 => absurd h9 (nI_ge (a := 4) (by omega) (by omega))) (fun _ => ?_)
  refine G_st (L := 89) (k := 4) (257, [some (.ref 62), some (.int (t q))], [.int (nI q), .int 1, .ref 62], qS sw gc (r_R I (nI n) (nI q) 2 (r_nv t q 200 q 0) 0 e) J) (q_hn _ _ _ _) rfl ?_
  rw [show nI q = nI q from rfl]
  refine G_callV (b := 62) (ci := 9) (as := [.int 1, .int (nI q)]) (rest := []) rfl rfl rfl (q_lt (by decide)) (by decide) rfl rfl (Nat.le_of_ble_eq_true rfl) r_fails0 x_out_n ?_
  refine G_st (L := 89) (k := 1) (296, [some (.ref 62), some (.int (t q))], [], qS sw gc (r_R I (nI n) (nI q) 2 (r_nv t q 200 q 0) 1 (nI q)) J) (q_hn _ _ _ _) rfl ?_
  exact G_ret rfl rfl rfl rfl
set_option maxRecDepth 8000 in
theorem r_nxS0 {d : Nat} {sw : Bool} {gc : Nat} {I : Nat → Nat → Int32} {J : Nat → Nat → Int64} {t : Nat → Int32} {l : Nat} (hT : r_Tp I t l) {b c v e : Int32} {q : Nat} (hq : q ≤ l) (h0 : ¬ t q = -1) (h1 : f_i3 (t q) 97 122 = 0) (h2 : f_i3 (t q) 48 57 = 0) (h3 : t q = 59) : G (d + 3) 106 (26, [some (.ref 62), none], [], qS sw gc (r_R I (nI q) b c v 0 e) J) none (qS sw gc (r_R I (nI (q + 1)) (nI q) 3 v 0 e) J) := by
  have hl2 := hT.2.1
  refine G_st (L := 89) (k := 7) (39, [some (.ref 62), none], [.int (nI q), .ref 62], qS sw gc (q_u (r_R I (nI q) b c v 0 e) 62 3 (nI q)) J) (q_hn _ _ _ _) rfl ?_
  rw [show nI q = nI q from rfl]
  rw [r_R3]
  refine G_callV (b := 62) (ci := 9) (as := [.int (nI q)]) (rest := []) rfl rfl rfl (q_lt (by decide)) (by decide) rfl rfl (Nat.le_of_ble_eq_true rfl) (r_look (r_Tp_R hT) (by omega)) x_out_n ?_
  refine G_st (L := 89) (k := 2) (44, [some (.ref 62), some (.int (t q))], [.int (t q)], qS sw gc (r_R I (nI q) (nI q) c v 0 e) J) (q_hn _ _ _ _) rfl ?_
  refine G_if_ge 55 rfl rfl (fun _ => ?_) (fun h9 => absurd (hT.nn h0) h9)
  refine G_st (L := 89) (k := 4) (63, [some (.ref 62), some (.int (t q))], [.long 122, .long 97, .long (Int32.toInt64 (t q))], qS sw gc (r_R I (nI q) (nI q) c v 0 e) J) (q_hn _ _ _ _) rfl ?_
  refine G_callS (as := [.long (Int32.toInt64 (t q)), .long 97, .long 122]) (rest := []) rfl rfl rfl (Nat.le_of_ble_eq_true rfl) (r_in (lo := 97) (hi := 122) rfl rfl) x_out_n ?_
  refine G_st (L := 89) (k := 0) (66, [some (.ref 62), some (.int (t q))], [.int (f_i3 (t q) 97 122)], qS sw gc (r_R I (nI q) (nI q) c v 0 e) J) (q_hn _ _ _ _) rfl ?_
  refine G_if_eq 137 rfl rfl (fun _ => ?_) (fun h9 => absurd h1 h9)
  refine G_st (L := 89) (k := 4) (145, [some (.ref 62), some (.int (t q))], [.long 57, .long 48, .long (Int32.toInt64 (t q))], qS sw gc (r_R I (nI q) (nI q) c v 0 e) J) (q_hn _ _ _ _) rfl ?_
  refine G_callS (as := [.long (Int32.toInt64 (t q)), .long 48, .long 57]) (rest := []) rfl rfl rfl (Nat.le_of_ble_eq_true rfl) (r_in (lo := 48) (hi := 57) rfl rfl) x_out_n ?_
  refine G_st (L := 89) (k := 0) (148, [some (.ref 62), some (.int (t q))], [.int (f_i3 (t q) 48 57)], qS sw gc (r_R I (nI q) (nI q) c v 0 e) J) (q_hn _ _ _ _) rfl ?_
  refine G_if_eq 263 rfl rfl (fun _ => ?_) (fun h9 => absurd h2 h9)
  refine G_st (L := 89) (k := 2) (266, [some (.ref 62), some (.int (t q))], [.int 59, .int (t q)], qS sw gc (r_R I (nI q) (nI q) c v 0 e) J) (q_hn _ _ _ _) rfl ?_
  refine G_icmp_ne 287 rfl rfl (fun h9 => absurd h3 h9) (fun _ => ?_)
  refine G_st (L := 89) (k := 10) (296, [some (.ref 62), some (.int (t q))], [], qS sw gc (q_u (q_u (r_R I (nI q) (nI q) c v 0 e) 62 4 3) 62 2 ((nI q) + 1)) J) (q_hn _ _ _ _) rfl ?_
  rw [r_R4]
  rw [r_R2]
  rw [show (nI q) + 1 = nI (q + 1) from q_addP rfl rfl]
  exact G_ret rfl rfl rfl rfl
set_option maxRecDepth 8000 in
theorem r_nxS1 {d : Nat} {sw : Bool} {gc : Nat} {I : Nat → Nat → Int32} {J : Nat → Nat → Int64} {t : Nat → Int32} {l : Nat} (hT : r_Tp I t l) {b c v e : Int32} {q : Nat} (hq : q ≤ l) (h0 : ¬ t q = -1) (h1 : f_i3 (t q) 97 122 = 0) (h2 : f_i3 (t q) 48 57 = 0) (h3 : ¬ t q = 59) : G (d + 3) 106 (26, [some (.ref 62), none], [], qS sw gc (r_R I (nI q) b c v 0 e) J) none (qS sw gc (r_R I (nI q) (nI q) c v 1 (nI q)) J) := by
  have hl2 := hT.2.1
  refine G_st (L := 89) (k := 7) (39, [some (.ref 62), none], [.int (nI q), .ref 62], qS sw gc (q_u (r_R I (nI q) b c v 0 e) 62 3 (nI q)) J) (q_hn _ _ _ _) rfl ?_
  rw [show nI q = nI q from rfl]
  rw [r_R3]
  refine G_callV (b := 62) (ci := 9) (as := [.int (nI q)]) (rest := []) rfl rfl rfl (q_lt (by decide)) (by decide) rfl rfl (Nat.le_of_ble_eq_true rfl) (r_look (r_Tp_R hT) (by omega)) x_out_n ?_
  refine G_st (L := 89) (k := 2) (44, [some (.ref 62), some (.int (t q))], [.int (t q)], qS sw gc (r_R I (nI q) (nI q) c v 0 e) J) (q_hn _ _ _ _) rfl ?_
  refine G_if_ge 55 rfl rfl (fun _ => ?_) (fun h9 => absurd (hT.nn h0) h9)
  refine G_st (L := 89) (k := 4) (63, [some (.ref 62), some (.int (t q))], [.long 122, .long 97, .long (Int32.toInt64 (t q))], qS sw gc (r_R I (nI q) (nI q) c v 0 e) J) (q_hn _ _ _ _) rfl ?_
  refine G_callS (as := [.long (Int32.toInt64 (t q)), .long 97, .long 122]) (rest := []) rfl rfl rfl (Nat.le_of_ble_eq_true rfl) (r_in (lo := 97) (hi := 122) rfl rfl) x_out_n ?_
  refine G_st (L := 89) (k := 0) (66, [some (.ref 62), some (.int (t q))], [.int (f_i3 (t q) 97 122)], qS sw gc (r_R I (nI q) (nI q) c v 0 e) J) (q_hn _ _ _ _) rfl ?_
  refine G_if_eq 137 rfl rfl (fun _ => ?_) (fun h9 => absurd h1 h9)
  refine G_st (L := 89) (k := 4) (145, [some (.ref 62), some (.int (t q))], [.long 57, .long 48, .long (Int32.toInt64 (t q))], qS sw gc (r_R I (nI q) (nI q) c v 0 e) J) (q_hn _ _ _ _) rfl ?_
  refine G_callS (as := [.long (Int32.toInt64 (t q)), .long 48, .long 57]) (rest := []) rfl rfl rfl (Nat.le_of_ble_eq_true rfl) (r_in (lo := 48) (hi := 57) rfl rfl) x_out_n ?_
  refine G_st (L := 89) (k := 0) (148, [some (.ref 62), some (.int (t q))], [.int (f_i3 (t q) 48 57)], qS sw gc (r_R I (nI q) (nI q) c v 0 e) J) (q_hn _ _ _ _) rfl ?_
  refine G_if_eq 263 rfl rfl (fun _ => ?_) (fun h9 => absurd h2 h9)
  refine G_st (L := 89) (k := 2) (266, [some (.ref 62), some (.int (t q))], [.int 59, .int (t q)], qS sw gc (r_R I (nI q) (nI q) c v 0 e) J) (q_hn _ _ _ _) rfl ?_
  refine G_icmp_ne 287 rfl rfl (fun _ => ?_) (fun h9 => absurd h9 h3)
  refine G_st (L := 89) (k := 4) (293, [some (.ref 62), some (.int (t q))], [.int (nI q), .int 1, .ref 62], qS sw gc (r_R I (nI q) (nI q) c v 0 e) J) (q_hn _ _ _ _) rfl ?_
  rw [show nI q = nI q from rfl]
  refine G_callV (b := 62) (ci := 9) (as := [.int 1, .int (nI q)]) (rest := []) rfl rfl rfl (q_lt (by decide)) (by decide) rfl rfl (Nat.le_of_ble_eq_true rfl) r_fails0 x_out_n ?_
  refine G_st (L := 89) (k := 0) (296, [some (.ref 62), some (.int (t q))], [], qS sw gc (r_R I (nI q) (nI q) c v 1 (nI q)) J) (q_hn _ _ _ _) rfl ?_
  exact G_ret rfl rfl rfl rfl
theorem r_next {d : Nat} {sw : Bool} {gc : Nat} {I : Nat → Nat → Int32} {J : Nat → Nat → Int64} {t : Nat → Int32} {l : Nat} (hT : r_Tp I t l) {p : Nat} (hp : p ≤ l) {b c v e : Int32} : ∃ A S V W, GM (d + 3) 106 [.ref 62] (qS sw gc (r_R I (nI p) b c v 0 e) J) none (qS sw gc (r_R I A (nI (t_q t p)) S V (t_e t (t_q t p)) W) J) ∧ (t_e t (t_q t p) = 0 → A = nI (t_n t (t_q t p)) ∧ S = nI (t_k (t (t_q t p))) ∧ V = t_v t (t_q t p) v) ∧ (¬ t_e t (t_q t p) = 0 → W = nI (t_q t p)) := by
  have hl2 := hT.2.1
  have hq := t_q_l hT.2.2.2 hp
  have K : ∀ {A S V W : Int32}, G (d + 3) 106 (26, [some (.ref 62), none], [], qS sw gc (r_R I (nI (t_q t p)) b c v 0 e) J) none (qS sw gc (r_R I A (nI (t_q t p)) S V (t_e t (t_q t p)) W) J) → GM (d + 3) 106 [.ref 62] (qS sw gc (r_R I (nI p) b c v 0 e) J) none (qS sw gc (r_R I A (nI (t_q t p)) S V (t_e t (t_q t p)) W) J) := fun g => GM_of (by decide) x_out_n (Nat.le_of_ble_eq_true rfl) trivial (r_nx0 hT 200 p (by omega) (by omega) g)
  generalize hqe : t_q t p = q at *
  by_cases h0 : t q = -1
  · have ee : t_e t q = 0 := by rw [t_e, if_pos h0]
    refine ⟨nI q, 0, v, e, K (by rw [ee]; exact r_nxE hT hq h0), fun _ => ⟨by rw [t_n, if_pos h0], by rw [t_k, if_pos h0]; rfl, by rw [t_v, if_pos h0]⟩, fun h => absurd ee h⟩
  · by_cases h1 : f_i3 (t q) 97 122 = 0
    · have l1 := q_isL_f h1
      have l1' : ¬ q_isL (t q) = true := by rw [l1]; decide
      by_cases h2 : f_i3 (t q) 48 57 = 0
      · have l2 := q_isF_f h2
        have l2' : ¬ q_isF (t q) = true := by rw [l2]; decide
        by_cases h3 : t q = 59
        · have ee : t_e t q = 0 := by rw [t_e, if_neg h0, if_neg l1', if_neg l2', if_pos h3]
          exact ⟨nI (q + 1), 3, v, e, K (by rw [ee]; exact r_nxS0 hT hq h0 h1 h2 h3), fun _ => ⟨by rw [t_n, if_neg h0, if_neg l1', if_neg l2'], by rw [t_k, if_neg h0, if_neg l1', if_neg l2']; rfl, by rw [t_v, if_neg h0, if_neg l1', if_neg l2']⟩, fun h => absurd ee h⟩
        · have ee : t_e t q = 1 := by rw [t_e, if_neg h0, if_neg l1', if_neg l2', if_neg h3]
          exact ⟨nI q, c, v, nI q, K (by rw [ee]; exact r_nxS1 hT hq h0 h1 h2 h3), fun h => absurd (ee.symm.trans h) (by decide), fun _ => rfl⟩
      · have l2 := q_isF_t h2
        by_cases hw : q_run q_isF t 200 q - q ≤ 4
        · have ee : t_e t q = 0 := by rw [t_e, if_neg h0, if_neg l1', if_pos l2, decide_eq_true hw]; rfl
          exact ⟨nI (q_run q_isF t 200 q), 2, r_nv t q 200 q 0, e, K (by rw [ee]; exact r_nxF0 hT hq h0 h1 h2 rfl hw), fun _ => ⟨by rw [t_n, if_neg h0, if_neg l1', if_pos l2], by rw [t_k, if_neg h0, if_neg l1', if_pos l2]; rfl, by rw [t_v, if_neg h0, if_neg l1', if_pos l2]; exact r_nv_val 200 q 0 (Nat.le_refl _) hw⟩, fun h => absurd ee h⟩
        · have ee : t_e t q = 1 := by rw [t_e, if_neg h0, if_neg l1', if_pos l2, decide_eq_false hw]; rfl
          exact ⟨nI (q_run q_isF t 200 q), 2, r_nv t q 200 q 0, nI q, K (by rw [ee]; exact r_nxF1 hT hq h0 h1 h2 rfl hw), fun h => absurd (ee.symm.trans h) (by decide), fun _ => rfl⟩
    · have l1 := q_isL_t h1
      by_cases hw : t_w0 t q (q_run q_isL t 200 q) (-4) = -4
      · have ee : t_e t q = 1 := by rw [t_e, if_neg h0, if_pos l1, decide_eq_true hw]; rfl
        exact ⟨nI (q_run q_isL t 200 q), 1, t_w0 t q (q_run q_isL t 200 q) (-4), nI q, K (by rw [ee]; exact r_nxN1 hT hq h0 h1 rfl hw), fun h => absurd (ee.symm.trans h) (by decide), fun _ => rfl⟩
      · have ee : t_e t q = 0 := by rw [t_e, if_neg h0, if_pos l1, decide_eq_false hw]; rfl
        exact ⟨nI (q_run q_isL t 200 q), 1, t_w0 t q (q_run q_isL t 200 q) (-4), e, K (by rw [ee]; exact r_nxN0 hT hq h0 h1 rfl hw), fun _ => ⟨by rw [t_n, if_neg h0, if_pos l1], by rw [t_k, if_neg h0, if_pos l1]; rfl, by rw [t_v, if_neg h0, if_pos l1]⟩, fun h => absurd ee h⟩
