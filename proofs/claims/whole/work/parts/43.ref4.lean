def r_moE (I : Nat → Nat → Int32) : Nat → Nat → Int32 := q_u I 62 30 (I 62 30 + 1)
theorem r_mo3 {d : Nat} {sw : Bool} {gc : Nat} {J : Nat → Nat → Int64} : ∀ (m i : Nat) (I : Nat → Nat → Int32), i + m = 240 → G d 128 (68, [some (.ref 62), some (.int (nI i))], [], qS sw gc I J) (some (.int (I 62 30 + 1))) (qS sw gc (r_moE (q_fil I 81 i 240 (-4))) J) := by
  intro m
  induction m with
  | zero =>
    intro i I h
    obtain rfl : i = 240 := by omega
    rw [q_fil_end]
    refine G_st (L := 89) (k := 2) (72, [some (.ref 62), some (.int 240)], [.int 240, .int 240], qS sw gc I J) (q_hn _ _ _ _) rfl ?_
    refine G_icmp_ge 89 rfl rfl (fun _ => ?_) (fun h9 => absurd h9 (by decide))
    refine G_st (L := 89) (k := 8) (103, [some (.ref 62), some (.int 240)], [.int ((I 62 30) + 1)], qS sw gc (q_u I 62 30 ((I 62 30) + 1)) J) (q_hn _ _ _ _) rfl ?_
    exact G_iret rfl rfl rfl rfl
  | succ m ih =>
    intro i I h
    rw [← q_fil_step I (-4) (by omega)]
    refine G_st (L := 89) (k := 2) (72, [some (.ref 62), some (.int (nI i))], [.int 240, .int (nI i)], qS sw gc I J) (q_hn _ _ _ _) rfl ?_
    refine G_icmp_ge 89 rfl rfl (fun h9 => absurd h9 (nI_ge (b := 240) (by omega) (by decide))) (fun _ => ?_)
    refine G_st (L := 89) (k := 4) (82, [some (.ref 62), some (.int (nI i))], [.int (-4), .int (nI i), .ref 81], qS sw gc I J) (q_hn _ _ _ _) rfl ?_
    refine G_iast (i := 81) (n := 240) rfl rfl (q_lt (by decide)) (vp_in_nI (by omega) (by decide)) ?_
    rw [q_clamp (n := i) (by omega)]
    refine G_st (L := 89) (k := 2) (68, [some (.ref 62), some (.int ((nI i) + 1))], [], qS sw gc (q_u I 81 i (-4)) J) (q_hn _ _ _ _) rfl ?_
    rw [show (nI i) + 1 = nI (i + 1) from (q_addP rfl rfl)]
    have h9 := ih (i + 1) (q_u I 81 i (-4)) (by omega)
    rw [q_un _ _ (show ¬ (62 = 81 ∧ 30 = i) by omega)] at h9
    exact h9
theorem q_fil3_step (I : Nat → Nat → Int32) {i n : Nat} (x z : Int32) (h : i < n) : q_fil (q_fil (q_u (q_u I 77 i x) 80 i z) 77 (i + 1) n x) 80 (i + 1) n z = q_fil (q_fil I 77 i n x) 80 i n z := by
  funext a b
  unfold q_fil q_u
  by_cases h1 : a = 80
  · subst h1
    by_cases h2 : b = i
    · subst h2
      rw [if_neg (by omega), if_neg (by omega), if_pos (by omega), if_pos (by omega)]
    · rw [if_neg (show ¬ (80 = 77 ∧ i + 1 ≤ b ∧ b < n) by omega), if_neg (show ¬ (80 = 80 ∧ b = i) by omega), if_neg (show ¬ (80 = 77 ∧ b = i) by omega), if_neg (show ¬ (80 = 77 ∧ i ≤ b ∧ b < n) by omega)]
      by_cases h3 : i + 1 ≤ b ∧ b < n
      · rw [if_pos (by omega), if_pos (by omega)]
      · rw [if_neg (by omega), if_neg (by omega)]
  · rw [if_neg (by omega), if_neg (show ¬ (a = 80 ∧ b = i) by omega), if_neg (show ¬ (a = 80 ∧ i ≤ b ∧ b < n) by omega)]
    by_cases h2 : a = 77 ∧ b = i
    · rw [if_neg (by omega), if_pos h2, if_pos (by omega)]
    · rw [if_neg h2]
      by_cases h3 : a = 77 ∧ i + 1 ≤ b ∧ b < n
      · rw [if_pos h3, if_pos (by omega)]
      · rw [if_neg h3, if_neg (by omega)]
theorem q_fil_un {I : Nat → Nat → Int32} {r i n : Nat} {v : Int32} {a b : Nat} (h : ¬ a = r) : q_fil I r i n v a b = I a b := by
  unfold q_fil
  rw [if_neg (by omega)]
theorem r_mo2 {d : Nat} {sw : Bool} {gc : Nat} {J : Nat → Nat → Int64} : ∀ (m i : Nat) (I : Nat → Nat → Int32), i + m = 8 → G d 128 (39, [some (.ref 62), some (.int (nI i))], [], qS sw gc I J) (some (.int (I 62 30 + 1))) (qS sw gc (r_moE (q_fil (q_fil (q_fil I 77 i 8 (-4)) 80 i 8 0) 81 0 240 (-4))) J) := by
  intro m
  induction m with
  | zero =>
    intro i I h
    obtain rfl : i = 8 := by omega
    rw [q_fil_end, q_fil_end]
    refine G_st (L := 89) (k := 2) (42, [some (.ref 62), some (.int 8)], [.int 8, .int 8], qS sw gc I J) (q_hn _ _ _ _) rfl ?_
    refine G_icmp_ge 66 rfl rfl (fun _ => ?_) (fun h9 => absurd h9 (by decide))
    refine G_st (L := 89) (k := 2) (68, [some (.ref 62), some (.int 0)], [], qS sw gc I J) (q_hn _ _ _ _) rfl ?_
    exact r_mo3 240 0 I rfl
  | succ m ih =>
    intro i I h
    rw [← q_fil3_step I (-4) 0 (by omega)]
    refine G_st (L := 89) (k := 2) (42, [some (.ref 62), some (.int (nI i))], [.int 8, .int (nI i)], qS sw gc I J) (q_hn _ _ _ _) rfl ?_
    refine G_icmp_ge 66 rfl rfl (fun h9 => absurd h9 (nI_ge (b := 8) (by omega) (by decide))) (fun _ => ?_)
    refine G_st (L := 89) (k := 4) (52, [some (.ref 62), some (.int (nI i))], [.int (-4), .int (nI i), .ref 77], qS sw gc I J) (q_hn _ _ _ _) rfl ?_
    refine G_iast (i := 77) (n := 8) rfl rfl (q_lt (by decide)) (vp_in_nI (by omega) (by decide)) ?_
    rw [q_clamp (n := i) (by omega)]
    refine G_st (L := 89) (k := 4) (59, [some (.ref 62), some (.int (nI i))], [.int 0, .int (nI i), .ref 80], qS sw gc (q_u I 77 i (-4)) J) (q_hn _ _ _ _) rfl ?_
    refine G_zast (i := 80) (n := 8) rfl rfl (q_lt (by decide)) (vp_in_nI (by omega) (by decide)) ?_
    rw [q_clamp (n := i) (by omega)]
    refine G_st (L := 89) (k := 2) (39, [some (.ref 62), some (.int ((nI i) + 1))], [], qS sw gc (q_u (q_u I 77 i (-4)) 80 i 0) J) (q_hn _ _ _ _) rfl ?_
    rw [show (nI i) + 1 = nI (i + 1) from (q_addP rfl rfl)]
    have h9 := ih (i + 1) (q_u (q_u I 77 i (-4)) 80 i 0) (by omega)
    rw [q_un _ _ (show ¬ (62 = 80 ∧ 30 = i) by omega), q_un _ _ (show ¬ (62 = 77 ∧ 30 = i) by omega)] at h9
    exact h9
def r_mon (I : Nat → Nat → Int32) : Nat → Nat → Int32 := r_moE (q_fil (q_fil (q_fil (q_fil (q_u I 62 29 0) 73 0 30 (-4)) 77 0 8 (-4)) 80 0 8 0) 81 0 240 (-4))
theorem r_mo1 {d : Nat} {sw : Bool} {gc : Nat} {J : Nat → Nat → Int64} : ∀ (m i : Nat) (I : Nat → Nat → Int32), i + m = 30 → G d 128 (17, [some (.ref 62), some (.int (nI i))], [], qS sw gc I J) (some (.int (I 62 30 + 1))) (qS sw gc (r_moE (q_fil (q_fil (q_fil (q_fil I 73 i 30 (-4)) 77 0 8 (-4)) 80 0 8 0) 81 0 240 (-4))) J) := by
  intro m
  induction m with
  | zero =>
    intro i I h
    obtain rfl : i = 30 := by omega
    rw [q_fil_end]
    refine G_st (L := 89) (k := 2) (20, [some (.ref 62), some (.int 30)], [.int 30, .int 30], qS sw gc I J) (q_hn _ _ _ _) rfl ?_
    refine G_icmp_ge 37 rfl rfl (fun _ => ?_) (fun h9 => absurd h9 (by decide))
    refine G_st (L := 89) (k := 2) (39, [some (.ref 62), some (.int 0)], [], qS sw gc I J) (q_hn _ _ _ _) rfl ?_
    exact r_mo2 8 0 I rfl
  | succ m ih =>
    intro i I h
    rw [← q_fil_step I (-4) (by omega)]
    refine G_st (L := 89) (k := 2) (20, [some (.ref 62), some (.int (nI i))], [.int 30, .int (nI i)], qS sw gc I J) (q_hn _ _ _ _) rfl ?_
    refine G_icmp_ge 37 rfl rfl (fun h9 => absurd h9 (nI_ge (b := 30) (by omega) (by decide))) (fun _ => ?_)
    refine G_st (L := 89) (k := 4) (30, [some (.ref 62), some (.int (nI i))], [.int (-4), .int (nI i), .ref 73], qS sw gc I J) (q_hn _ _ _ _) rfl ?_
    refine G_iast (i := 73) (n := 30) rfl rfl (q_lt (by decide)) (vp_in_nI (by omega) (by decide)) ?_
    rw [q_clamp (n := i) (by omega)]
    refine G_st (L := 89) (k := 2) (17, [some (.ref 62), some (.int ((nI i) + 1))], [], qS sw gc (q_u I 73 i (-4)) J) (q_hn _ _ _ _) rfl ?_
    rw [show (nI i) + 1 = nI (i + 1) from (q_addP rfl rfl)]
    have h9 := ih (i + 1) (q_u I 73 i (-4)) (by omega)
    rw [q_un _ _ (show ¬ (62 = 73 ∧ 30 = i) by omega)] at h9
    exact h9
theorem r_monthS {d : Nat} {sw : Bool} {gc : Nat} {I : Nat → Nat → Int32} {J : Nat → Nat → Int64} (hl : I 62 29 = 0) : GM d 128 [.ref 62] (qS sw gc I J) (some (.int (-2))) (qS sw gc I J) := by
  refine GM_of (by decide) (Nat.le_refl _) (Nat.le_of_ble_eq_true rfl) trivial ?_
  refine G_st (L := 89) (k := 0) (0, [some (.ref 62), none], [], qS sw gc I J) (q_hn _ _ _ _) rfl ?_
  refine G_st (L := 89) (k := 2) (4, [some (.ref 62), none], [.int (I 62 29)], qS sw gc I J) (q_hn _ _ _ _) rfl ?_
  refine G_if_ne 10 rfl rfl (fun h9 => absurd hl h9) (fun _ => ?_)
  refine G_st (L := 89) (k := 1) (9, [some (.ref 62), none], [.int (-2)], qS sw gc I J) (q_hn _ _ _ _) rfl ?_
  exact G_iret rfl rfl rfl rfl
theorem r_month {d : Nat} {sw : Bool} {gc : Nat} {I : Nat → Nat → Int32} {J : Nat → Nat → Int64} (hl : ¬ I 62 29 = 0) : GM d 128 [.ref 62] (qS sw gc I J) (some (.int ((I 62 30) + 1))) (qS sw gc (r_mon I) J) := by
  refine GM_of (by decide) (Nat.le_refl _) (Nat.le_of_ble_eq_true rfl) trivial ?_
  refine G_st (L := 89) (k := 0) (0, [some (.ref 62), none], [], qS sw gc I J) (q_hn _ _ _ _) rfl ?_
  refine G_st (L := 89) (k := 2) (4, [some (.ref 62), none], [.int (I 62 29)], qS sw gc I J) (q_hn _ _ _ _) rfl ?_
  refine G_if_ne 10 rfl rfl (fun _ => ?_) (fun h9 => absurd h9 hl)
  refine G_st (L := 89) (k := 5) (17, [some (.ref 62), some (.int 0)], [], qS sw gc (q_u I 62 29 0) J) (q_hn _ _ _ _) rfl ?_
  exact r_mo1 30 0 (q_u I 62 29 0) rfl
def r_heldP (I : Nat → Nat → Int32) (w : Nat) : Bool := !decide (I 73 w = (-4))
theorem r_cn_loop {d : Nat} {sw : Bool} {gc : Nat} {I : Nat → Nat → Int32} {J : Nat → Nat → Int64} {q r : Int32} (g : ∀ h l : Nat, h = q_cnt (r_heldP I) 30 0 → l = q_cnt (r_ls I) 30 0 → G d 144 (58, [some (.ref 62), some (.int q), some (.int (nI h)), some (.int (nI l)), some (.int 30)], [], qS sw gc I J) (some (.int r)) (qS sw gc I J)) : ∀ (n i h l : Nat), i + n = 30 → h + n < 1000 → l + n < 1000 → h + q_cnt (r_heldP I) n i = q_cnt (r_heldP I) 30 0 → l + q_cnt (r_ls I) n i = q_cnt (r_ls I) 30 0 → G d 144 (7, [some (.ref 62), some (.int q), some (.int (nI h)), some (.int (nI l)), some (.int (nI i))], [], qS sw gc I J) (some (.int r)) (qS sw gc I J) := by
  intro n
  induction n with
  | zero =>
    intro i h l h0 h1 h2 h3 h4
    obtain rfl : i = 30 := by omega
    refine G_st (L := 89) (k := 2) (11, [some (.ref 62), some (.int q), some (.int (nI h)), some (.int (nI l)), some (.int 30)], [.int 30, .int 30], qS sw gc I J) (q_hn _ _ _ _) rfl ?_
    refine G_icmp_ge 58 rfl rfl (fun _ => ?_) (fun h9 => absurd h9 (by decide))
    exact g h l h3 h4
  | succ n ih =>
    intro i h l h0 h1 h2 h3 h4
    rw [q_cnt] at h3 h4
    refine G_st (L := 89) (k := 2) (11, [some (.ref 62), some (.int q), some (.int (nI h)), some (.int (nI l)), some (.int (nI i))], [.int 30, .int (nI i)], qS sw gc I J) (q_hn _ _ _ _) rfl ?_
    refine G_icmp_ge 58 rfl rfl (fun h9 => absurd h9 (nI_ge (b := 30) (by omega) (by decide))) (fun _ => ?_)
    refine G_st (L := 89) (k := 4) (21, [some (.ref 62), some (.int q), some (.int (nI h)), some (.int (nI l)), some (.int (nI i))], [.int (nI i), .ref 73, .int (nI h)], qS sw gc I J) (q_hn _ _ _ _) rfl ?_
    refine G_iald (i := 73) (n := 30) rfl rfl (q_lt (by decide)) (vp_in_nI (by omega) (by decide)) ?_
    rw [q_clamp (n := i) (by omega)]
    refine G_st (L := 89) (k := 1) (24, [some (.ref 62), some (.int q), some (.int (nI h)), some (.int (nI l)), some (.int (nI i))], [.int (-4), .int (I 73 i), .int (nI h)], qS sw gc I J) (q_hn _ _ _ _) rfl ?_
    refine G_icmp_ne 31 rfl rfl (fun h11 => ?_) (fun h11 => ?_)
    · skip
      refine G_st (L := 89) (k := 7) (41, [some (.ref 62), some (.int q), some (.int ((nI h) + 1)), some (.int (nI l)), some (.int (nI i))], [.int (nI i), .ref 72, .int (nI l)], qS sw gc I J) (q_hn _ _ _ _) rfl ?_
      rw [show (nI h) + 1 = nI (h + 1) from (q_addP rfl rfl)]
      refine G_zald (i := 72) (n := 30) rfl rfl (q_lt (by decide)) (vp_in_nI (by omega) (by decide)) ?_
      rw [q_clamp (n := i) (by omega)]
      refine G_st (L := 89) (k := 0) (42, [some (.ref 62), some (.int q), some (.int (nI (h + 1))), some (.int (nI l)), some (.int (nI i))], [.int (I 72 i), .int (nI l)], qS sw gc I J) (q_hn _ _ _ _) rfl ?_
      refine G_if_eq 49 rfl rfl (fun h12 => ?_) (fun h12 => ?_)
      · skip
        refine G_st (L := 89) (k := 5) (7, [some (.ref 62), some (.int q), some (.int (nI (h + 1))), some (.int ((nI l) + 0)), some (.int ((nI i) + 1))], [], qS sw gc I J) (q_hn _ _ _ _) rfl ?_
        rw [show (nI l) + 0 = nI (l + 0) from (q_addP rfl rfl)]
        rw [show (nI i) + 1 = nI (i + 1) from (q_addP rfl rfl)]
        refine ih (i + 1) (h + 1) (l + 0) (by omega) (by omega) (by omega) ?_ ?_
        · rw [r_heldP, decide_eq_false h11] at h3; simp only [Bool.not_true, Bool.not_false, cond_true, cond_false] at h3; omega
        · rw [r_ls, decide_eq_true h12] at h4; simp only [Bool.not_true, Bool.not_false, cond_true, cond_false] at h4; omega
      · skip
        refine G_st (L := 89) (k := 6) (7, [some (.ref 62), some (.int q), some (.int (nI (h + 1))), some (.int ((nI l) + 1)), some (.int ((nI i) + 1))], [], qS sw gc I J) (q_hn _ _ _ _) rfl ?_
        rw [show (nI l) + 1 = nI (l + 1) from (q_addP rfl rfl)]
        rw [show (nI i) + 1 = nI (i + 1) from (q_addP rfl rfl)]
        refine ih (i + 1) (h + 1) (l + 1) (by omega) (by omega) (by omega) ?_ ?_
        · rw [r_heldP, decide_eq_false h11] at h3; simp only [Bool.not_true, Bool.not_false, cond_true, cond_false] at h3; omega
        · rw [r_ls, decide_eq_false h12] at h4; simp only [Bool.not_true, Bool.not_false, cond_true, cond_false] at h4; omega
    · skip
      refine G_st (L := 89) (k := 8) (41, [some (.ref 62), some (.int q), some (.int ((nI h) + 0)), some (.int (nI l)), some (.int (nI i))], [.int (nI i), .ref 72, .int (nI l)], qS sw gc I J) (q_hn _ _ _ _) rfl ?_
      rw [show (nI h) + 0 = nI (h + 0) from (q_addP rfl rfl)]
      refine G_zald (i := 72) (n := 30) rfl rfl (q_lt (by decide)) (vp_in_nI (by omega) (by decide)) ?_
      rw [q_clamp (n := i) (by omega)]
      refine G_st (L := 89) (k := 0) (42, [some (.ref 62), some (.int q), some (.int (nI (h + 0))), some (.int (nI l)), some (.int (nI i))], [.int (I 72 i), .int (nI l)], qS sw gc I J) (q_hn _ _ _ _) rfl ?_
      refine G_if_eq 49 rfl rfl (fun h13 => ?_) (fun h13 => ?_)
      · skip
        refine G_st (L := 89) (k := 5) (7, [some (.ref 62), some (.int q), some (.int (nI (h + 0))), some (.int ((nI l) + 0)), some (.int ((nI i) + 1))], [], qS sw gc I J) (q_hn _ _ _ _) rfl ?_
        rw [show (nI l) + 0 = nI (l + 0) from (q_addP rfl rfl)]
        rw [show (nI i) + 1 = nI (i + 1) from (q_addP rfl rfl)]
        refine ih (i + 1) (h + 0) (l + 0) (by omega) (by omega) (by omega) ?_ ?_
        · rw [r_heldP, decide_eq_true h11] at h3; simp only [Bool.not_true, Bool.not_false, cond_true, cond_false] at h3; omega
        · rw [r_ls, decide_eq_true h13] at h4; simp only [Bool.not_true, Bool.not_false, cond_true, cond_false] at h4; omega
      · skip
        refine G_st (L := 89) (k := 6) (7, [some (.ref 62), some (.int q), some (.int (nI (h + 0))), some (.int ((nI l) + 1)), some (.int ((nI i) + 1))], [], qS sw gc I J) (q_hn _ _ _ _) rfl ?_
        rw [show (nI l) + 1 = nI (l + 1) from (q_addP rfl rfl)]
        rw [show (nI i) + 1 = nI (i + 1) from (q_addP rfl rfl)]
        refine ih (i + 1) (h + 0) (l + 1) (by omega) (by omega) (by omega) ?_ ?_
        · rw [r_heldP, decide_eq_true h11] at h3; simp only [Bool.not_true, Bool.not_false, cond_true, cond_false] at h3; omega
        · rw [r_ls, decide_eq_false h13] at h4; simp only [Bool.not_true, Bool.not_false, cond_true, cond_false] at h4; omega
theorem r_count0 {d : Nat} {sw : Bool} {gc : Nat} {I : Nat → Nat → Int32} {J : Nat → Nat → Int64} : GM (d + 1) 144 [.ref 62, .int 0] (qS sw gc I J) (some (.int (I 62 20))) (qS sw gc I J) := by
  refine GM_of (by decide) (Nat.le_refl _) (Nat.le_of_ble_eq_true rfl) trivial ?_
  refine G_st (L := 89) (k := 6) (7, [some (.ref 62), some (.int 0), some (.int 0), some (.int 0), some (.int 0)], [], qS sw gc I J) (q_hn _ _ _ _) rfl ?_
  refine r_cn_loop (fun h l eh el => ?_) 30 0 0 0 (by omega) (by omega) (by omega) (by omega) (by omega)
  refine G_st (L := 89) (k := 1) (59, [some (.ref 62), some (.int 0), some (.int (nI h)), some (.int (nI l)), some (.int 30)], [.int 0], qS sw gc I J) (q_hn _ _ _ _) rfl ?_
  refine G_tsIn (off := 53) 112 rfl (by decide) (by decide) rfl rfl ?_
  refine G_st (L := 89) (k := 2) (116, [some (.ref 62), some (.int 0), some (.int (nI h)), some (.int (nI l)), some (.int 30)], [.int (I 62 20)], qS sw gc I J) (q_hn _ _ _ _) rfl ?_
  exact G_iret rfl rfl rfl rfl
theorem r_count1 {d : Nat} {sw : Bool} {gc : Nat} {I : Nat → Nat → Int32} {J : Nat → Nat → Int64} : GM (d + 1) 144 [.ref 62, .int 1] (qS sw gc I J) (some (.int (I 62 32))) (qS sw gc I J) := by
  refine GM_of (by decide) (Nat.le_refl _) (Nat.le_of_ble_eq_true rfl) trivial ?_
  refine G_st (L := 89) (k := 6) (7, [some (.ref 62), some (.int 1), some (.int 0), some (.int 0), some (.int 0)], [], qS sw gc I J) (q_hn _ _ _ _) rfl ?_
  refine r_cn_loop (fun h l eh el => ?_) 30 0 0 0 (by omega) (by omega) (by omega) (by omega) (by omega)
  refine G_st (L := 89) (k := 1) (59, [some (.ref 62), some (.int 1), some (.int (nI h)), some (.int (nI l)), some (.int 30)], [.int 1], qS sw gc I J) (q_hn _ _ _ _) rfl ?_
  refine G_tsIn (off := 58) 117 rfl (by decide) (by decide) rfl rfl ?_
  refine G_st (L := 89) (k := 2) (121, [some (.ref 62), some (.int 1), some (.int (nI h)), some (.int (nI l)), some (.int 30)], [.int (I 62 32)], qS sw gc I J) (q_hn _ _ _ _) rfl ?_
  exact G_iret rfl rfl rfl rfl
theorem r_count2 {d : Nat} {sw : Bool} {gc : Nat} {I : Nat → Nat → Int32} {J : Nat → Nat → Int64} : GM (d + 1) 144 [.ref 62, .int 2] (qS sw gc I J) (some (.int (I 62 30))) (qS sw gc I J) := by
  refine GM_of (by decide) (Nat.le_refl _) (Nat.le_of_ble_eq_true rfl) trivial ?_
  refine G_st (L := 89) (k := 6) (7, [some (.ref 62), some (.int 2), some (.int 0), some (.int 0), some (.int 0)], [], qS sw gc I J) (q_hn _ _ _ _) rfl ?_
  refine r_cn_loop (fun h l eh el => ?_) 30 0 0 0 (by omega) (by omega) (by omega) (by omega) (by omega)
  refine G_st (L := 89) (k := 1) (59, [some (.ref 62), some (.int 2), some (.int (nI h)), some (.int (nI l)), some (.int 30)], [.int 2], qS sw gc I J) (q_hn _ _ _ _) rfl ?_
  refine G_tsIn (off := 63) 122 rfl (by decide) (by decide) rfl rfl ?_
  refine G_st (L := 89) (k := 2) (126, [some (.ref 62), some (.int 2), some (.int (nI h)), some (.int (nI l)), some (.int 30)], [.int (I 62 30)], qS sw gc I J) (q_hn _ _ _ _) rfl ?_
  exact G_iret rfl rfl rfl rfl
theorem r_count3 {d : Nat} {sw : Bool} {gc : Nat} {I : Nat → Nat → Int32} {J : Nat → Nat → Int64} : GM (d + 1) 144 [.ref 62, .int 3] (qS sw gc I J) (some (.int (nI (q_cnt (r_askP I) 240 0)))) (qS sw gc I J) := by
  refine GM_of (by decide) (Nat.le_refl _) (Nat.le_of_ble_eq_true rfl) trivial ?_
  refine G_st (L := 89) (k := 6) (7, [some (.ref 62), some (.int 3), some (.int 0), some (.int 0), some (.int 0)], [], qS sw gc I J) (q_hn _ _ _ _) rfl ?_
  refine r_cn_loop (fun h l eh el => ?_) 30 0 0 0 (by omega) (by omega) (by omega) (by omega) (by omega)
  refine G_st (L := 89) (k := 1) (59, [some (.ref 62), some (.int 3), some (.int (nI h)), some (.int (nI l)), some (.int 30)], [.int 3], qS sw gc I J) (q_hn _ _ _ _) rfl ?_
  refine G_tsIn (off := 68) 127 rfl (by decide) (by decide) rfl rfl ?_
  refine G_st (L := 89) (k := 1) (128, [some (.ref 62), some (.int 3), some (.int (nI h)), some (.int (nI l)), some (.int 30)], [.ref 62], qS sw gc I J) (q_hn _ _ _ _) rfl ?_
  refine G_callV (b := 62) (ci := 9) (as := []) (rest := []) rfl rfl rfl (q_lt (by decide)) (by decide) rfl rfl (Nat.le_of_ble_eq_true rfl) r_askMany (Nat.le_refl _) ?_
  refine G_st (L := 89) (k := 0) (131, [some (.ref 62), some (.int 3), some (.int (nI h)), some (.int (nI l)), some (.int 30)], [.int (nI (q_cnt (r_askP I) 240 0))], qS sw gc I J) (q_hn _ _ _ _) rfl ?_
  exact G_iret rfl rfl rfl rfl
theorem r_count4 {d : Nat} {sw : Bool} {gc : Nat} {I : Nat → Nat → Int32} {J : Nat → Nat → Int64} : GM (d + 1) 144 [.ref 62, .int 4] (qS sw gc I J) (some (.int (nI (q_cnt (r_heldP I) 30 0)))) (qS sw gc I J) := by
  refine GM_of (by decide) (Nat.le_refl _) (Nat.le_of_ble_eq_true rfl) trivial ?_
  refine G_st (L := 89) (k := 6) (7, [some (.ref 62), some (.int 4), some (.int 0), some (.int 0), some (.int 0)], [], qS sw gc I J) (q_hn _ _ _ _) rfl ?_
  refine r_cn_loop (fun h l eh el => ?_) 30 0 0 0 (by omega) (by omega) (by omega) (by omega) (by omega)
  refine G_st (L := 89) (k := 1) (59, [some (.ref 62), some (.int 4), some (.int (nI h)), some (.int (nI l)), some (.int 30)], [.int 4], qS sw gc I J) (q_hn _ _ _ _) rfl ?_
  refine G_tsIn (off := 73) 132 rfl (by decide) (by decide) rfl rfl ?_
  refine G_st (L := 89) (k := 1) (133, [some (.ref 62), some (.int 4), some (.int (nI h)), some (.int (nI l)), some (.int 30)], [.int (nI h)], qS sw gc I J) (q_hn _ _ _ _) rfl ?_
  exact G_iret rfl rfl (by rw [eh]) rfl
theorem r_count5 {d : Nat} {sw : Bool} {gc : Nat} {I : Nat → Nat → Int32} {J : Nat → Nat → Int64} : GM (d + 1) 144 [.ref 62, .int 5] (qS sw gc I J) (some (.int (nI (q_cnt (r_ls I) 30 0)))) (qS sw gc I J) := by
  refine GM_of (by decide) (Nat.le_refl _) (Nat.le_of_ble_eq_true rfl) trivial ?_
  refine G_st (L := 89) (k := 6) (7, [some (.ref 62), some (.int 5), some (.int 0), some (.int 0), some (.int 0)], [], qS sw gc I J) (q_hn _ _ _ _) rfl ?_
  refine r_cn_loop (fun h l eh el => ?_) 30 0 0 0 (by omega) (by omega) (by omega) (by omega) (by omega)
  refine G_st (L := 89) (k := 1) (59, [some (.ref 62), some (.int 5), some (.int (nI h)), some (.int (nI l)), some (.int 30)], [.int 5], qS sw gc I J) (q_hn _ _ _ _) rfl ?_
  refine G_tsIn (off := 75) 134 rfl (by decide) (by decide) rfl rfl ?_
  refine G_st (L := 89) (k := 1) (135, [some (.ref 62), some (.int 5), some (.int (nI h)), some (.int (nI l)), some (.int 30)], [.int (nI l)], qS sw gc I J) (q_hn _ _ _ _) rfl ?_
  exact G_iret rfl rfl (by rw [el]) rfl
theorem r_count6 {d : Nat} {sw : Bool} {gc : Nat} {I : Nat → Nat → Int32} {J : Nat → Nat → Int64} : GM (d + 1) 144 [.ref 62, .int 6] (qS sw gc I J) (some (.int (I 62 31))) (qS sw gc I J) := by
  refine GM_of (by decide) (Nat.le_refl _) (Nat.le_of_ble_eq_true rfl) trivial ?_
  refine G_st (L := 89) (k := 6) (7, [some (.ref 62), some (.int 6), some (.int 0), some (.int 0), some (.int 0)], [], qS sw gc I J) (q_hn _ _ _ _) rfl ?_
  refine r_cn_loop (fun h l eh el => ?_) 30 0 0 0 (by omega) (by omega) (by omega) (by omega) (by omega)
  refine G_st (L := 89) (k := 1) (59, [some (.ref 62), some (.int 6), some (.int (nI h)), some (.int (nI l)), some (.int 30)], [.int 6], qS sw gc I J) (q_hn _ _ _ _) rfl ?_
  refine G_tsIn (off := 77) 136 rfl (by decide) (by decide) rfl rfl ?_
  refine G_st (L := 89) (k := 2) (140, [some (.ref 62), some (.int 6), some (.int (nI h)), some (.int (nI l)), some (.int 30)], [.int (I 62 31)], qS sw gc I J) (q_hn _ _ _ _) rfl ?_
  exact G_iret rfl rfl rfl rfl
theorem r_count7 {d : Nat} {sw : Bool} {gc : Nat} {I : Nat → Nat → Int32} {J : Nat → Nat → Int64} : GM (d + 1) 144 [.ref 62, .int 7] (qS sw gc I J) (some (.int (I 62 36))) (qS sw gc I J) := by
  refine GM_of (by decide) (Nat.le_refl _) (Nat.le_of_ble_eq_true rfl) trivial ?_
  refine G_st (L := 89) (k := 6) (7, [some (.ref 62), some (.int 7), some (.int 0), some (.int 0), some (.int 0)], [], qS sw gc I J) (q_hn _ _ _ _) rfl ?_
  refine r_cn_loop (fun h l eh el => ?_) 30 0 0 0 (by omega) (by omega) (by omega) (by omega) (by omega)
  refine G_st (L := 89) (k := 1) (59, [some (.ref 62), some (.int 7), some (.int (nI h)), some (.int (nI l)), some (.int 30)], [.int 7], qS sw gc I J) (q_hn _ _ _ _) rfl ?_
  refine G_tsIn (off := 82) 141 rfl (by decide) (by decide) rfl rfl ?_
  refine G_st (L := 89) (k := 2) (145, [some (.ref 62), some (.int 7), some (.int (nI h)), some (.int (nI l)), some (.int 30)], [.int (I 62 36)], qS sw gc I J) (q_hn _ _ _ _) rfl ?_
  exact G_iret rfl rfl rfl rfl
theorem r_count8 {d : Nat} {sw : Bool} {gc : Nat} {I : Nat → Nat → Int32} {J : Nat → Nat → Int64} : GM (d + 1) 144 [.ref 62, .int 8] (qS sw gc I J) (some (.int (I 62 37))) (qS sw gc I J) := by
  refine GM_of (by decide) (Nat.le_refl _) (Nat.le_of_ble_eq_true rfl) trivial ?_
  refine G_st (L := 89) (k := 6) (7, [some (.ref 62), some (.int 8), some (.int 0), some (.int 0), some (.int 0)], [], qS sw gc I J) (q_hn _ _ _ _) rfl ?_
  refine r_cn_loop (fun h l eh el => ?_) 30 0 0 0 (by omega) (by omega) (by omega) (by omega) (by omega)
  refine G_st (L := 89) (k := 1) (59, [some (.ref 62), some (.int 8), some (.int (nI h)), some (.int (nI l)), some (.int 30)], [.int 8], qS sw gc I J) (q_hn _ _ _ _) rfl ?_
  refine G_tsIn (off := 87) 146 rfl (by decide) (by decide) rfl rfl ?_
  refine G_st (L := 89) (k := 2) (150, [some (.ref 62), some (.int 8), some (.int (nI h)), some (.int (nI l)), some (.int 30)], [.int (I 62 37)], qS sw gc I J) (q_hn _ _ _ _) rfl ?_
  exact G_iret rfl rfl rfl rfl
theorem r_count9 {d : Nat} {sw : Bool} {gc : Nat} {I : Nat → Nat → Int32} {J : Nat → Nat → Int64} : GM (d + 1) 144 [.ref 62, .int 9] (qS sw gc I J) (some (.int (r_lm I))) (qS sw gc I J) := by
  refine GM_of (by decide) (Nat.le_refl _) (Nat.le_of_ble_eq_true rfl) trivial ?_
  refine G_st (L := 89) (k := 6) (7, [some (.ref 62), some (.int 9), some (.int 0), some (.int 0), some (.int 0)], [], qS sw gc I J) (q_hn _ _ _ _) rfl ?_
  refine r_cn_loop (fun h l eh el => ?_) 30 0 0 0 (by omega) (by omega) (by omega) (by omega) (by omega)
  refine G_st (L := 89) (k := 1) (59, [some (.ref 62), some (.int 9), some (.int (nI h)), some (.int (nI l)), some (.int 30)], [.int 9], qS sw gc I J) (q_hn _ _ _ _) rfl ?_
  refine G_tsIn (off := 92) 151 rfl (by decide) (by decide) rfl rfl ?_
  refine G_st (L := 89) (k := 1) (152, [some (.ref 62), some (.int 9), some (.int (nI h)), some (.int (nI l)), some (.int 30)], [.ref 62], qS sw gc I J) (q_hn _ _ _ _) rfl ?_
  refine G_callV (b := 62) (ci := 9) (as := []) (rest := []) rfl rfl rfl (q_lt (by decide)) (by decide) rfl rfl (Nat.le_of_ble_eq_true rfl) r_lawMany (Nat.le_refl _) ?_
  refine G_st (L := 89) (k := 0) (155, [some (.ref 62), some (.int 9), some (.int (nI h)), some (.int (nI l)), some (.int 30)], [.int (r_lm I)], qS sw gc I J) (q_hn _ _ _ _) rfl ?_
  exact G_iret rfl rfl rfl rfl
theorem r_countQ {d : Nat} {sw : Bool} {gc : Nat} {I : Nat → Nat → Int32} {J : Nat → Nat → Int64} {q : Int32} (hq : q.toInt < 0 ∨ 9 < q.toInt) : GM (d + 1) 144 [.ref 62, .int q] (qS sw gc I J) (some (.int (-1))) (qS sw gc I J) := by
  refine GM_of (by decide) (Nat.le_refl _) (Nat.le_of_ble_eq_true rfl) trivial ?_
  refine G_st (L := 89) (k := 6) (7, [some (.ref 62), some (.int q), some (.int 0), some (.int 0), some (.int 0)], [], qS sw gc I J) (q_hn _ _ _ _) rfl ?_
  refine r_cn_loop (fun h l eh el => ?_) 30 0 0 0 (by omega) (by omega) (by omega) (by omega) (by omega)
  refine G_st (L := 89) (k := 1) (59, [some (.ref 62), some (.int q), some (.int (nI h)), some (.int (nI l)), some (.int 30)], [.int q], qS sw gc I J) (q_hn _ _ _ _) rfl ?_
  refine G_tsOut 156 rfl hq rfl ?_
  refine G_st (L := 89) (k := 1) (157, [some (.ref 62), some (.int q), some (.int (nI h)), some (.int (nI l)), some (.int 30)], [.int (-1)], qS sw gc I J) (q_hn _ _ _ _) rfl ?_
  exact G_iret rfl rfl rfl rfl
theorem r_mayWorkN {d : Nat} {sw : Bool} {gc : Nat} {I : Nat → Nat → Int32} {J : Nat → Nat → Int64} {k : Nat} (hk : k < gc) (hg : gc ≤ 8) (hw : I 77 k = -4) : GM (d + 1) 136 [.ref 62, .int (nI k)] (qS sw gc I J) (some (.int 0)) (qS sw gc I J) := by
  refine GM_of (by decide) (Nat.le_refl _) (Nat.le_of_ble_eq_true rfl) rfl ?_
  refine G_st (L := 89) (k := 0) (0, [some (.ref 62), some (.int (nI k))], [], qS sw gc I J) (q_hn _ _ _ _) rfl ?_
  refine G_st (L := 89) (k := 3) (5, [some (.ref 62), some (.int (nI k))], [.int (nI k), .ref 77], qS sw gc I J) (q_hn _ _ _ _) rfl ?_
  refine G_iald (i := 77) (n := 8) rfl rfl (q_lt (by decide)) (vp_in_nI (by omega) (by decide)) ?_
  rw [q_clamp (n := k) (by omega)]
  refine G_st (L := 89) (k := 1) (8, [some (.ref 62), some (.int (nI k))], [.int (-4), .int (I 77 k)], qS sw gc I J) (q_hn _ _ _ _) rfl ?_
  refine G_icmp_eq 28 rfl rfl (fun _ => ?_) (fun h9 => absurd hw h9)
  refine G_st (L := 89) (k := 1) (29, [some (.ref 62), some (.int (nI k))], [.int 0], qS sw gc I J) (q_hn _ _ _ _) rfl ?_
  exact G_iret rfl rfl rfl rfl
theorem r_mayWork {d : Nat} {sw : Bool} {gc : Nat} {I : Nat → Nat → Int32} {J : Nat → Nat → Int64} {k : Nat} (hk : k < gc) (hg : gc ≤ 8) {w : Nat} (hw : w < 30) (hwk : I 77 k = nI w) : GM (d + 1) 136 [.ref 62, .int (nI k)] (qS sw gc I J) (some (.int (q_b (r_may I w)))) (qS sw gc I J) := by
  refine GM_of (by decide) (Nat.le_refl _) (Nat.le_of_ble_eq_true rfl) q_bn ?_
  refine G_st (L := 89) (k := 0) (0, [some (.ref 62), some (.int (nI k))], [], qS sw gc I J) (q_hn _ _ _ _) rfl ?_
  refine G_st (L := 89) (k := 3) (5, [some (.ref 62), some (.int (nI k))], [.int (nI k), .ref 77], qS sw gc I J) (q_hn _ _ _ _) rfl ?_
  refine G_iald (i := 77) (n := 8) rfl rfl (q_lt (by decide)) (vp_in_nI (by omega) (by decide)) ?_
  rw [q_clamp (n := k) (by omega)]
  refine G_st (L := 89) (k := 1) (8, [some (.ref 62), some (.int (nI k))], [.int (-4), .int (I 77 k)], qS sw gc I J) (q_hn _ _ _ _) rfl ?_
  rw [show I 77 k = nI w from hwk]
  refine G_icmp_eq 28 rfl rfl (fun h9 => absurd h9 (q_neN (by decide) (by omega))) (fun _ => ?_)
  refine G_st (L := 89) (k := 4) (17, [some (.ref 62), some (.int (nI k))], [.int (nI k), .ref 77, .ref 62], qS sw gc I J) (q_hn _ _ _ _) rfl ?_
  refine G_iald (i := 77) (n := 8) rfl rfl (q_lt (by decide)) (vp_in_nI (by omega) (by decide)) ?_
  rw [q_clamp (n := k) (by omega)]
  refine G_st (L := 89) (k := 0) (18, [some (.ref 62), some (.int (nI k))], [.int (I 77 k), .ref 62], qS sw gc I J) (q_hn _ _ _ _) rfl ?_
  rw [show I 77 k = nI w from hwk]
  refine G_callV (b := 62) (ci := 9) (as := [.int (nI w)]) (rest := []) rfl rfl rfl (q_lt (by decide)) (by decide) rfl rfl (Nat.le_of_ble_eq_true rfl) (r_mayBeWorked hw) (Nat.le_refl _) ?_
  refine G_st (L := 89) (k := 0) (21, [some (.ref 62), some (.int (nI k))], [.int (q_b (r_may I w))], qS sw gc I J) (q_hn _ _ _ _) rfl ?_
  refine G_if_eq 28 rfl rfl (fun h1 => ?_) (fun h1 => ?_)
  · skip
    refine G_st (L := 89) (k := 1) (29, [some (.ref 62), some (.int (nI k))], [.int 0], qS sw gc I J) (q_hn _ _ _ _) rfl ?_
    exact G_iret rfl rfl (by rw [q_b0.mp h1]; rfl) rfl
  · skip
    refine G_st (L := 89) (k := 2) (29, [some (.ref 62), some (.int (nI k))], [.int 1], qS sw gc I J) (q_hn _ _ _ _) rfl ?_
    exact G_iret rfl rfl (by rw [q_b1 h1]; rfl) rfl
