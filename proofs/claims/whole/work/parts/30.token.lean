def t_nm0 (t : Nat → Int32) (q n : Nat) : Bool := cond (Nat.beq (n - q) 3) (cond (decide (t (q + 0) = 116)) (cond (decide (t (q + 1) = 111)) (cond (decide (t (q + 2) = 112)) (true) false) false) false) false
theorem x_itnP0 {d : Nat} {sw : Bool} {gc : Nat} {I : Nat → Nat → Int32} {J : Nat → Nat → Int64} {l : Nat} (hl : I 2 1 = nI l) (hl2 : l ≤ 200) {q n : Nat} (hq : q ≤ n) (hn : n ≤ 900) {b c f : Int32} (hlen : n - q = 3) : GM (d + 4) 37 [.ref 1, .float 3] (qS sw gc (x_R I (nI n) b c f (nI q)) J) (some (.int (q_b (t_nm0 (x_T I) q n)))) (qS sw gc (x_R I (nI n) b c f (nI q)) J) := by
  refine GM_of (by decide) x_out_n (Nat.le_of_ble_eq_true rfl) q_bn ?_
  refine G_st (L := 89) (k := 0) (0, [some (.ref 1), some (.float 3), none], [], qS sw gc (x_R I (nI n) b c f (nI q)) J) (q_hn _ _ _ _) rfl ?_
  refine G_st (L := 89) (k := 6) (10, [some (.ref 1), some (.float 3), none], [.float 3, .int ((nI n) - (nI q))], qS sw gc (x_R I (nI n) b c f (nI q)) J) (q_hn _ _ _ _) rfl ?_
  rw [show (nI n) - (nI q) = nI (n - q) from (q_subP rfl rfl (by omega))]
  refine G_callK (i := 0) (as := []) (rest := [.int (nI (n - q))]) rfl rfl (by decide) rfl rfl rfl (Nat.le_of_ble_eq_true rfl) k_len0 x_out_n ?_
  refine G_st (L := 89) (k := 0) (13, [some (.ref 1), some (.float 3), none], [.int 3, .int (nI (n - q))], qS sw gc (x_R I (nI n) b c f (nI q)) J) (q_hn _ _ _ _) rfl ?_
  refine G_icmp_eq 18 rfl rfl (fun _ => ?_) (fun h9 => absurd (congrArg nI hlen) h9)
  refine G_st (L := 89) (k := 4) (22, [some (.ref 1), some (.float 3), some (.int 0)], [.float 3, .int 0], qS sw gc (x_R I (nI n) b c f (nI q)) J) (q_hn _ _ _ _) rfl ?_
  refine G_callK (i := 0) (as := []) (rest := [.int 0]) rfl rfl (by decide) rfl rfl rfl (Nat.le_of_ble_eq_true rfl) k_len0 x_out_n ?_
  refine G_st (L := 89) (k := 0) (25, [some (.ref 1), some (.float 3), some (.int 0)], [.int 3, .int 0], qS sw gc (x_R I (nI n) b c f (nI q)) J) (q_hn _ _ _ _) rfl ?_
  refine G_icmp_ge 57 rfl rfl (fun h9 => absurd h9 (by decide)) (fun _ => ?_)
  refine G_st (L := 89) (k := 6) (38, [some (.ref 1), some (.float 3), some (.int 0)], [.int ((nI q) + 0), .ref 2], qS sw gc (x_R I (nI n) b c f (nI q)) J) (q_hn _ _ _ _) rfl ?_
  rw [show (nI q) + 0 = nI (q + 0) from (q_addP rfl rfl)]
  refine G_callV (b := 2) (ci := 6) (as := [.int (nI (q + 0))]) (rest := []) rfl rfl rfl (q_lt (by decide)) (by decide) rfl rfl (Nat.le_of_ble_eq_true rfl) (x_byT (l := l) hl hl2 (by omega)) x_out_n ?_
  refine G_st (L := 89) (k := 2) (43, [some (.ref 1), some (.float 3), some (.int 0)], [.int 0, .float 3, .int (x_T I (q + 0))], qS sw gc (x_R I (nI n) b c f (nI q)) J) (q_hn _ _ _ _) rfl ?_
  refine G_callK (i := 0) (as := [.int 0]) (rest := [.int (x_T I (q + 0))]) rfl rfl (by decide) rfl rfl rfl (Nat.le_of_ble_eq_true rfl) k_ch_0_0 x_out_n ?_
  refine G_st (L := 89) (k := 0) (46, [some (.ref 1), some (.float 3), some (.int 0)], [.int 116, .int (x_T I (q + 0))], qS sw gc (x_R I (nI n) b c f (nI q)) J) (q_hn _ _ _ _) rfl ?_
  refine G_icmp_eq 51 rfl rfl (fun h1 => ?_) (fun h1 => ?_)
  · skip
    refine G_st (L := 89) (k := 4) (22, [some (.ref 1), some (.float 3), some (.int 1)], [.float 3, .int 1], qS sw gc (x_R I (nI n) b c f (nI q)) J) (q_hn _ _ _ _) rfl ?_
    refine G_callK (i := 0) (as := []) (rest := [.int 1]) rfl rfl (by decide) rfl rfl rfl (Nat.le_of_ble_eq_true rfl) k_len0 x_out_n ?_
    refine G_st (L := 89) (k := 0) (25, [some (.ref 1), some (.float 3), some (.int 1)], [.int 3, .int 1], qS sw gc (x_R I (nI n) b c f (nI q)) J) (q_hn _ _ _ _) rfl ?_
    refine G_icmp_ge 57 rfl rfl (fun h9 => absurd h9 (by decide)) (fun _ => ?_)
    refine G_st (L := 89) (k := 6) (38, [some (.ref 1), some (.float 3), some (.int 1)], [.int ((nI q) + 1), .ref 2], qS sw gc (x_R I (nI n) b c f (nI q)) J) (q_hn _ _ _ _) rfl ?_
    rw [show (nI q) + 1 = nI (q + 1) from (q_addP rfl rfl)]
    refine G_callV (b := 2) (ci := 6) (as := [.int (nI (q + 1))]) (rest := []) rfl rfl rfl (q_lt (by decide)) (by decide) rfl rfl (Nat.le_of_ble_eq_true rfl) (x_byT (l := l) hl hl2 (by omega)) x_out_n ?_
    refine G_st (L := 89) (k := 2) (43, [some (.ref 1), some (.float 3), some (.int 1)], [.int 1, .float 3, .int (x_T I (q + 1))], qS sw gc (x_R I (nI n) b c f (nI q)) J) (q_hn _ _ _ _) rfl ?_
    refine G_callK (i := 0) (as := [.int 1]) (rest := [.int (x_T I (q + 1))]) rfl rfl (by decide) rfl rfl rfl (Nat.le_of_ble_eq_true rfl) k_ch_0_1 x_out_n ?_
    refine G_st (L := 89) (k := 0) (46, [some (.ref 1), some (.float 3), some (.int 1)], [.int 111, .int (x_T I (q + 1))], qS sw gc (x_R I (nI n) b c f (nI q)) J) (q_hn _ _ _ _) rfl ?_
    refine G_icmp_eq 51 rfl rfl (fun h2 => ?_) (fun h2 => ?_)
    · skip
      refine G_st (L := 89) (k := 4) (22, [some (.ref 1), some (.float 3), some (.int 2)], [.float 3, .int 2], qS sw gc (x_R I (nI n) b c f (nI q)) J) (q_hn _ _ _ _) rfl ?_
      refine G_callK (i := 0) (as := []) (rest := [.int 2]) rfl rfl (by decide) rfl rfl rfl (Nat.le_of_ble_eq_true rfl) k_len0 x_out_n ?_
      refine G_st (L := 89) (k := 0) (25, [some (.ref 1), some (.float 3), some (.int 2)], [.int 3, .int 2], qS sw gc (x_R I (nI n) b c f (nI q)) J) (q_hn _ _ _ _) rfl ?_
      refine G_icmp_ge 57 rfl rfl (fun h9 => absurd h9 (by decide)) (fun _ => ?_)
      refine G_st (L := 89) (k := 6) (38, [some (.ref 1), some (.float 3), some (.int 2)], [.int ((nI q) + 2), .ref 2], qS sw gc (x_R I (nI n) b c f (nI q)) J) (q_hn _ _ _ _) rfl ?_
      rw [show (nI q) + 2 = nI (q + 2) from (q_addP rfl rfl)]
      refine G_callV (b := 2) (ci := 6) (as := [.int (nI (q + 2))]) (rest := []) rfl rfl rfl (q_lt (by decide)) (by decide) rfl rfl (Nat.le_of_ble_eq_true rfl) (x_byT (l := l) hl hl2 (by omega)) x_out_n ?_
      refine G_st (L := 89) (k := 2) (43, [some (.ref 1), some (.float 3), some (.int 2)], [.int 2, .float 3, .int (x_T I (q + 2))], qS sw gc (x_R I (nI n) b c f (nI q)) J) (q_hn _ _ _ _) rfl ?_
      refine G_callK (i := 0) (as := [.int 2]) (rest := [.int (x_T I (q + 2))]) rfl rfl (by decide) rfl rfl rfl (Nat.le_of_ble_eq_true rfl) k_ch_0_2 x_out_n ?_
      refine G_st (L := 89) (k := 0) (46, [some (.ref 1), some (.float 3), some (.int 2)], [.int 112, .int (x_T I (q + 2))], qS sw gc (x_R I (nI n) b c f (nI q)) J) (q_hn _ _ _ _) rfl ?_
      refine G_icmp_eq 51 rfl rfl (fun h3 => ?_) (fun h3 => ?_)
      · skip
        refine G_st (L := 89) (k := 4) (22, [some (.ref 1), some (.float 3), some (.int 3)], [.float 3, .int 3], qS sw gc (x_R I (nI n) b c f (nI q)) J) (q_hn _ _ _ _) rfl ?_
        refine G_callK (i := 0) (as := []) (rest := [.int 3]) rfl rfl (by decide) rfl rfl rfl (Nat.le_of_ble_eq_true rfl) k_len0 x_out_n ?_
        refine G_st (L := 89) (k := 0) (25, [some (.ref 1), some (.float 3), some (.int 3)], [.int 3, .int 3], qS sw gc (x_R I (nI n) b c f (nI q)) J) (q_hn _ _ _ _) rfl ?_
        refine G_icmp_ge 57 rfl rfl (fun _ => ?_) (fun h9 => absurd h9 (by decide))
        refine G_st (L := 89) (k := 1) (58, [some (.ref 1), some (.float 3), some (.int 3)], [.int 1], qS sw gc (x_R I (nI n) b c f (nI q)) J) (q_hn _ _ _ _) rfl ?_
        exact G_iret rfl rfl (by unfold t_nm0; rw [show Nat.beq (n - q) 3 = true by rw [hlen]; rfl, decide_eq_true h1, decide_eq_true h2, decide_eq_true h3]; rfl) rfl
      · skip
        refine G_st (L := 89) (k := 1) (50, [some (.ref 1), some (.float 3), some (.int 2)], [.int 0], qS sw gc (x_R I (nI n) b c f (nI q)) J) (q_hn _ _ _ _) rfl ?_
        exact G_iret rfl rfl (by unfold t_nm0; rw [show Nat.beq (n - q) 3 = true by rw [hlen]; rfl, decide_eq_true h1, decide_eq_true h2, decide_eq_false h3]; rfl) rfl
    · skip
      refine G_st (L := 89) (k := 1) (50, [some (.ref 1), some (.float 3), some (.int 1)], [.int 0], qS sw gc (x_R I (nI n) b c f (nI q)) J) (q_hn _ _ _ _) rfl ?_
      exact G_iret rfl rfl (by unfold t_nm0; rw [show Nat.beq (n - q) 3 = true by rw [hlen]; rfl, decide_eq_true h1, decide_eq_false h2]; rfl) rfl
  · skip
    refine G_st (L := 89) (k := 1) (50, [some (.ref 1), some (.float 3), some (.int 0)], [.int 0], qS sw gc (x_R I (nI n) b c f (nI q)) J) (q_hn _ _ _ _) rfl ?_
    exact G_iret rfl rfl (by unfold t_nm0; rw [show Nat.beq (n - q) 3 = true by rw [hlen]; rfl, decide_eq_false h1]; rfl) rfl
theorem x_itnN0 {d : Nat} {sw : Bool} {gc : Nat} {I : Nat → Nat → Int32} {J : Nat → Nat → Int64} {l : Nat} (hl : I 2 1 = nI l) (hl2 : l ≤ 200) {q n : Nat} (hq : q ≤ n) (hn : n ≤ 900) {b c f : Int32} (hlen : ¬ n - q = 3) : GM (d + 4) 37 [.ref 1, .float 3] (qS sw gc (x_R I (nI n) b c f (nI q)) J) (some (.int 0)) (qS sw gc (x_R I (nI n) b c f (nI q)) J) := by
  refine GM_of (by decide) x_out_n (Nat.le_of_ble_eq_true rfl) rfl ?_
  refine G_st (L := 89) (k := 0) (0, [some (.ref 1), some (.float 3), none], [], qS sw gc (x_R I (nI n) b c f (nI q)) J) (q_hn _ _ _ _) rfl ?_
  refine G_st (L := 89) (k := 6) (10, [some (.ref 1), some (.float 3), none], [.float 3, .int ((nI n) - (nI q))], qS sw gc (x_R I (nI n) b c f (nI q)) J) (q_hn _ _ _ _) rfl ?_
  rw [show (nI n) - (nI q) = nI (n - q) from (q_subP rfl rfl (by omega))]
  refine G_callK (i := 0) (as := []) (rest := [.int (nI (n - q))]) rfl rfl (by decide) rfl rfl rfl (Nat.le_of_ble_eq_true rfl) k_len0 x_out_n ?_
  refine G_st (L := 89) (k := 0) (13, [some (.ref 1), some (.float 3), none], [.int 3, .int (nI (n - q))], qS sw gc (x_R I (nI n) b c f (nI q)) J) (q_hn _ _ _ _) rfl ?_
  refine G_icmp_eq 18 rfl rfl (fun h9 => absurd h9 (fun e9 => absurd ((nI_eq (b := 3) (by omega) (by decide)).mp e9) hlen)) (fun _ => ?_)
  refine G_st (L := 89) (k := 1) (17, [some (.ref 1), some (.float 3), none], [.int 0], qS sw gc (x_R I (nI n) b c f (nI q)) J) (q_hn _ _ _ _) rfl ?_
  exact G_iret rfl rfl rfl rfl
theorem x_isTakenName0 {d : Nat} {sw : Bool} {gc : Nat} {I : Nat → Nat → Int32} {J : Nat → Nat → Int64} {l : Nat} (hl : I 2 1 = nI l) (hl2 : l ≤ 200) {q n : Nat} (hq : q ≤ n) (hn : n ≤ 900) {b c f : Int32} : GM (d + 4) 37 [.ref 1, .float 3] (qS sw gc (x_R I (nI n) b c f (nI q)) J) (some (.int (q_b (t_nm0 (x_T I) q n)))) (qS sw gc (x_R I (nI n) b c f (nI q)) J) := by
  by_cases h : n - q = 3
  · exact x_itnP0 hl hl2 hq hn h
  · have e : t_nm0 (x_T I) q n = false := by
      unfold t_nm0
      have : Nat.beq (n - q) 3 = false := by
        cases hb : Nat.beq (n - q) 3 with
        | true => exact absurd (Nat.eq_of_beq_eq_true hb) h
        | false => rfl
      rw [this]; rfl
    rw [e]
    exact x_itnN0 hl hl2 hq hn h
def t_nm1 (t : Nat → Int32) (q n : Nat) : Bool := cond (Nat.beq (n - q) 4) (cond (decide (t (q + 0) = 104)) (cond (decide (t (q + 1) = 97)) (cond (decide (t (q + 2) = 110)) (cond (decide (t (q + 3) = 103)) (true) false) false) false) false) false
theorem x_itnP1 {d : Nat} {sw : Bool} {gc : Nat} {I : Nat → Nat → Int32} {J : Nat → Nat → Int64} {l : Nat} (hl : I 2 1 = nI l) (hl2 : l ≤ 200) {q n : Nat} (hq : q ≤ n) (hn : n ≤ 900) {b c f : Int32} (hlen : n - q = 4) : GM (d + 4) 37 [.ref 1, .float 4] (qS sw gc (x_R I (nI n) b c f (nI q)) J) (some (.int (q_b (t_nm1 (x_T I) q n)))) (qS sw gc (x_R I (nI n) b c f (nI q)) J) := by
  refine GM_of (by decide) x_out_n (Nat.le_of_ble_eq_true rfl) q_bn ?_
  refine G_st (L := 89) (k := 0) (0, [some (.ref 1), some (.float 4), none], [], qS sw gc (x_R I (nI n) b c f (nI q)) J) (q_hn _ _ _ _) rfl ?_
  refine G_st (L := 89) (k := 6) (10, [some (.ref 1), some (.float 4), none], [.float 4, .int ((nI n) - (nI q))], qS sw gc (x_R I (nI n) b c f (nI q)) J) (q_hn _ _ _ _) rfl ?_
  rw [show (nI n) - (nI q) = nI (n - q) from (q_subP rfl rfl (by omega))]
  refine G_callK (i := 1) (as := []) (rest := [.int (nI (n - q))]) rfl rfl (by decide) rfl rfl rfl (Nat.le_of_ble_eq_true rfl) k_len1 x_out_n ?_
  refine G_st (L := 89) (k := 0) (13, [some (.ref 1), some (.float 4), none], [.int 4, .int (nI (n - q))], qS sw gc (x_R I (nI n) b c f (nI q)) J) (q_hn _ _ _ _) rfl ?_
  refine G_icmp_eq 18 rfl rfl (fun _ => ?_) (fun h9 => absurd (congrArg nI hlen) h9)
  refine G_st (L := 89) (k := 4) (22, [some (.ref 1), some (.float 4), some (.int 0)], [.float 4, .int 0], qS sw gc (x_R I (nI n) b c f (nI q)) J) (q_hn _ _ _ _) rfl ?_
  refine G_callK (i := 1) (as := []) (rest := [.int 0]) rfl rfl (by decide) rfl rfl rfl (Nat.le_of_ble_eq_true rfl) k_len1 x_out_n ?_
  refine G_st (L := 89) (k := 0) (25, [some (.ref 1), some (.float 4), some (.int 0)], [.int 4, .int 0], qS sw gc (x_R I (nI n) b c f (nI q)) J) (q_hn _ _ _ _) rfl ?_
  refine G_icmp_ge 57 rfl rfl (fun h9 => absurd h9 (by decide)) (fun _ => ?_)
  refine G_st (L := 89) (k := 6) (38, [some (.ref 1), some (.float 4), some (.int 0)], [.int ((nI q) + 0), .ref 2], qS sw gc (x_R I (nI n) b c f (nI q)) J) (q_hn _ _ _ _) rfl ?_
  rw [show (nI q) + 0 = nI (q + 0) from (q_addP rfl rfl)]
  refine G_callV (b := 2) (ci := 6) (as := [.int (nI (q + 0))]) (rest := []) rfl rfl rfl (q_lt (by decide)) (by decide) rfl rfl (Nat.le_of_ble_eq_true rfl) (x_byT (l := l) hl hl2 (by omega)) x_out_n ?_
  refine G_st (L := 89) (k := 2) (43, [some (.ref 1), some (.float 4), some (.int 0)], [.int 0, .float 4, .int (x_T I (q + 0))], qS sw gc (x_R I (nI n) b c f (nI q)) J) (q_hn _ _ _ _) rfl ?_
  refine G_callK (i := 1) (as := [.int 0]) (rest := [.int (x_T I (q + 0))]) rfl rfl (by decide) rfl rfl rfl (Nat.le_of_ble_eq_true rfl) k_ch_1_0 x_out_n ?_
  refine G_st (L := 89) (k := 0) (46, [some (.ref 1), some (.float 4), some (.int 0)], [.int 104, .int (x_T I (q + 0))], qS sw gc (x_R I (nI n) b c f (nI q)) J) (q_hn _ _ _ _) rfl ?_
  refine G_icmp_eq 51 rfl rfl (fun h1 => ?_) (fun h1 => ?_)
  · skip
    refine G_st (L := 89) (k := 4) (22, [some (.ref 1), some (.float 4), some (.int 1)], [.float 4, .int 1], qS sw gc (x_R I (nI n) b c f (nI q)) J) (q_hn _ _ _ _) rfl ?_
    refine G_callK (i := 1) (as := []) (rest := [.int 1]) rfl rfl (by decide) rfl rfl rfl (Nat.le_of_ble_eq_true rfl) k_len1 x_out_n ?_
    refine G_st (L := 89) (k := 0) (25, [some (.ref 1), some (.float 4), some (.int 1)], [.int 4, .int 1], qS sw gc (x_R I (nI n) b c f (nI q)) J) (q_hn _ _ _ _) rfl ?_
    refine G_icmp_ge 57 rfl rfl (fun h9 => absurd h9 (by decide)) (fun _ => ?_)
    refine G_st (L := 89) (k := 6) (38, [some (.ref 1), some (.float 4), some (.int 1)], [.int ((nI q) + 1), .ref 2], qS sw gc (x_R I (nI n) b c f (nI q)) J) (q_hn _ _ _ _) rfl ?_
    rw [show (nI q) + 1 = nI (q + 1) from (q_addP rfl rfl)]
    refine G_callV (b := 2) (ci := 6) (as := [.int (nI (q + 1))]) (rest := []) rfl rfl rfl (q_lt (by decide)) (by decide) rfl rfl (Nat.le_of_ble_eq_true rfl) (x_byT (l := l) hl hl2 (by omega)) x_out_n ?_
    refine G_st (L := 89) (k := 2) (43, [some (.ref 1), some (.float 4), some (.int 1)], [.int 1, .float 4, .int (x_T I (q + 1))], qS sw gc (x_R I (nI n) b c f (nI q)) J) (q_hn _ _ _ _) rfl ?_
    refine G_callK (i := 1) (as := [.int 1]) (rest := [.int (x_T I (q + 1))]) rfl rfl (by decide) rfl rfl rfl (Nat.le_of_ble_eq_true rfl) k_ch_1_1 x_out_n ?_
    refine G_st (L := 89) (k := 0) (46, [some (.ref 1), some (.float 4), some (.int 1)], [.int 97, .int (x_T I (q + 1))], qS sw gc (x_R I (nI n) b c f (nI q)) J) (q_hn _ _ _ _) rfl ?_
    refine G_icmp_eq 51 rfl rfl (fun h2 => ?_) (fun h2 => ?_)
    · skip
      refine G_st (L := 89) (k := 4) (22, [some (.ref 1), some (.float 4), some (.int 2)], [.float 4, .int 2], qS sw gc (x_R I (nI n) b c f (nI q)) J) (q_hn _ _ _ _) rfl ?_
      refine G_callK (i := 1) (as := []) (rest := [.int 2]) rfl rfl (by decide) rfl rfl rfl (Nat.le_of_ble_eq_true rfl) k_len1 x_out_n ?_
      refine G_st (L := 89) (k := 0) (25, [some (.ref 1), some (.float 4), some (.int 2)], [.int 4, .int 2], qS sw gc (x_R I (nI n) b c f (nI q)) J) (q_hn _ _ _ _) rfl ?_
      refine G_icmp_ge 57 rfl rfl (fun h9 => absurd h9 (by decide)) (fun _ => ?_)
      refine G_st (L := 89) (k := 6) (38, [some (.ref 1), some (.float 4), some (.int 2)], [.int ((nI q) + 2), .ref 2], qS sw gc (x_R I (nI n) b c f (nI q)) J) (q_hn _ _ _ _) rfl ?_
      rw [show (nI q) + 2 = nI (q + 2) from (q_addP rfl rfl)]
      refine G_callV (b := 2) (ci := 6) (as := [.int (nI (q + 2))]) (rest := []) rfl rfl rfl (q_lt (by decide)) (by decide) rfl rfl (Nat.le_of_ble_eq_true rfl) (x_byT (l := l) hl hl2 (by omega)) x_out_n ?_
      refine G_st (L := 89) (k := 2) (43, [some (.ref 1), some (.float 4), some (.int 2)], [.int 2, .float 4, .int (x_T I (q + 2))], qS sw gc (x_R I (nI n) b c f (nI q)) J) (q_hn _ _ _ _) rfl ?_
      refine G_callK (i := 1) (as := [.int 2]) (rest := [.int (x_T I (q + 2))]) rfl rfl (by decide) rfl rfl rfl (Nat.le_of_ble_eq_true rfl) k_ch_1_2 x_out_n ?_
      refine G_st (L := 89) (k := 0) (46, [some (.ref 1), some (.float 4), some (.int 2)], [.int 110, .int (x_T I (q + 2))], qS sw gc (x_R I (nI n) b c f (nI q)) J) (q_hn _ _ _ _) rfl ?_
      refine G_icmp_eq 51 rfl rfl (fun h3 => ?_) (fun h3 => ?_)
      · skip
        refine G_st (L := 89) (k := 4) (22, [some (.ref 1), some (.float 4), some (.int 3)], [.float 4, .int 3], qS sw gc (x_R I (nI n) b c f (nI q)) J) (q_hn _ _ _ _) rfl ?_
        refine G_callK (i := 1) (as := []) (rest := [.int 3]) rfl rfl (by decide) rfl rfl rfl (Nat.le_of_ble_eq_true rfl) k_len1 x_out_n ?_
        refine G_st (L := 89) (k := 0) (25, [some (.ref 1), some (.float 4), some (.int 3)], [.int 4, .int 3], qS sw gc (x_R I (nI n) b c f (nI q)) J) (q_hn _ _ _ _) rfl ?_
        refine G_icmp_ge 57 rfl rfl (fun h9 => absurd h9 (by decide)) (fun _ => ?_)
        refine G_st (L := 89) (k := 6) (38, [some (.ref 1), some (.float 4), some (.int 3)], [.int ((nI q) + 3), .ref 2], qS sw gc (x_R I (nI n) b c f (nI q)) J) (q_hn _ _ _ _) rfl ?_
        rw [show (nI q) + 3 = nI (q + 3) from (q_addP rfl rfl)]
        refine G_callV (b := 2) (ci := 6) (as := [.int (nI (q + 3))]) (rest := []) rfl rfl rfl (q_lt (by decide)) (by decide) rfl rfl (Nat.le_of_ble_eq_true rfl) (x_byT (l := l) hl hl2 (by omega)) x_out_n ?_
        refine G_st (L := 89) (k := 2) (43, [some (.ref 1), some (.float 4), some (.int 3)], [.int 3, .float 4, .int (x_T I (q + 3))], qS sw gc (x_R I (nI n) b c f (nI q)) J) (q_hn _ _ _ _) rfl ?_
        refine G_callK (i := 1) (as := [.int 3]) (rest := [.int (x_T I (q + 3))]) rfl rfl (by decide) rfl rfl rfl (Nat.le_of_ble_eq_true rfl) k_ch_1_3 x_out_n ?_
        refine G_st (L := 89) (k := 0) (46, [some (.ref 1), some (.float 4), some (.int 3)], [.int 103, .int (x_T I (q + 3))], qS sw gc (x_R I (nI n) b c f (nI q)) J) (q_hn _ _ _ _) rfl ?_
        refine G_icmp_eq 51 rfl rfl (fun h4 => ?_) (fun h4 => ?_)
        · skip
          refine G_st (L := 89) (k := 4) (22, [some (.ref 1), some (.float 4), some (.int 4)], [.float 4, .int 4], qS sw gc (x_R I (nI n) b c f (nI q)) J) (q_hn _ _ _ _) rfl ?_
          refine G_callK (i := 1) (as := []) (rest := [.int 4]) rfl rfl (by decide) rfl rfl rfl (Nat.le_of_ble_eq_true rfl) k_len1 x_out_n ?_
          refine G_st (L := 89) (k := 0) (25, [some (.ref 1), some (.float 4), some (.int 4)], [.int 4, .int 4], qS sw gc (x_R I (nI n) b c f (nI q)) J) (q_hn _ _ _ _) rfl ?_
          refine G_icmp_ge 57 rfl rfl (fun _ => ?_) (fun h9 => absurd h9 (by decide))
          refine G_st (L := 89) (k := 1) (58, [some (.ref 1), some (.float 4), some (.int 4)], [.int 1], qS sw gc (x_R I (nI n) b c f (nI q)) J) (q_hn _ _ _ _) rfl ?_
          exact G_iret rfl rfl (by unfold t_nm1; rw [show Nat.beq (n - q) 4 = true by rw [hlen]; rfl, decide_eq_true h1, decide_eq_true h2, decide_eq_true h3, decide_eq_true h4]; rfl) rfl
        · skip
          refine G_st (L := 89) (k := 1) (50, [some (.ref 1), some (.float 4), some (.int 3)], [.int 0], qS sw gc (x_R I (nI n) b c f (nI q)) J) (q_hn _ _ _ _) rfl ?_
          exact G_iret rfl rfl (by unfold t_nm1; rw [show Nat.beq (n - q) 4 = true by rw [hlen]; rfl, decide_eq_true h1, decide_eq_true h2, decide_eq_true h3, decide_eq_false h4]; rfl) rfl
      · skip
        refine G_st (L := 89) (k := 1) (50, [some (.ref 1), some (.float 4), some (.int 2)], [.int 0], qS sw gc (x_R I (nI n) b c f (nI q)) J) (q_hn _ _ _ _) rfl ?_
        exact G_iret rfl rfl (by unfold t_nm1; rw [show Nat.beq (n - q) 4 = true by rw [hlen]; rfl, decide_eq_true h1, decide_eq_true h2, decide_eq_false h3]; rfl) rfl
    · skip
      refine G_st (L := 89) (k := 1) (50, [some (.ref 1), some (.float 4), some (.int 1)], [.int 0], qS sw gc (x_R I (nI n) b c f (nI q)) J) (q_hn _ _ _ _) rfl ?_
      exact G_iret rfl rfl (by unfold t_nm1; rw [show Nat.beq (n - q) 4 = true by rw [hlen]; rfl, decide_eq_true h1, decide_eq_false h2]; rfl) rfl
  · skip
    refine G_st (L := 89) (k := 1) (50, [some (.ref 1), some (.float 4), some (.int 0)], [.int 0], qS sw gc (x_R I (nI n) b c f (nI q)) J) (q_hn _ _ _ _) rfl ?_
    exact G_iret rfl rfl (by unfold t_nm1; rw [show Nat.beq (n - q) 4 = true by rw [hlen]; rfl, decide_eq_false h1]; rfl) rfl
theorem x_itnN1 {d : Nat} {sw : Bool} {gc : Nat} {I : Nat → Nat → Int32} {J : Nat → Nat → Int64} {l : Nat} (hl : I 2 1 = nI l) (hl2 : l ≤ 200) {q n : Nat} (hq : q ≤ n) (hn : n ≤ 900) {b c f : Int32} (hlen : ¬ n - q = 4) : GM (d + 4) 37 [.ref 1, .float 4] (qS sw gc (x_R I (nI n) b c f (nI q)) J) (some (.int 0)) (qS sw gc (x_R I (nI n) b c f (nI q)) J) := by
  refine GM_of (by decide) x_out_n (Nat.le_of_ble_eq_true rfl) rfl ?_
  refine G_st (L := 89) (k := 0) (0, [some (.ref 1), some (.float 4), none], [], qS sw gc (x_R I (nI n) b c f (nI q)) J) (q_hn _ _ _ _) rfl ?_
  refine G_st (L := 89) (k := 6) (10, [some (.ref 1), some (.float 4), none], [.float 4, .int ((nI n) - (nI q))], qS sw gc (x_R I (nI n) b c f (nI q)) J) (q_hn _ _ _ _) rfl ?_
  rw [show (nI n) - (nI q) = nI (n - q) from (q_subP rfl rfl (by omega))]
  refine G_callK (i := 1) (as := []) (rest := [.int (nI (n - q))]) rfl rfl (by decide) rfl rfl rfl (Nat.le_of_ble_eq_true rfl) k_len1 x_out_n ?_
  refine G_st (L := 89) (k := 0) (13, [some (.ref 1), some (.float 4), none], [.int 4, .int (nI (n - q))], qS sw gc (x_R I (nI n) b c f (nI q)) J) (q_hn _ _ _ _) rfl ?_
  refine G_icmp_eq 18 rfl rfl (fun h9 => absurd h9 (fun e9 => absurd ((nI_eq (b := 4) (by omega) (by decide)).mp e9) hlen)) (fun _ => ?_)
  refine G_st (L := 89) (k := 1) (17, [some (.ref 1), some (.float 4), none], [.int 0], qS sw gc (x_R I (nI n) b c f (nI q)) J) (q_hn _ _ _ _) rfl ?_
  exact G_iret rfl rfl rfl rfl
theorem x_isTakenName1 {d : Nat} {sw : Bool} {gc : Nat} {I : Nat → Nat → Int32} {J : Nat → Nat → Int64} {l : Nat} (hl : I 2 1 = nI l) (hl2 : l ≤ 200) {q n : Nat} (hq : q ≤ n) (hn : n ≤ 900) {b c f : Int32} : GM (d + 4) 37 [.ref 1, .float 4] (qS sw gc (x_R I (nI n) b c f (nI q)) J) (some (.int (q_b (t_nm1 (x_T I) q n)))) (qS sw gc (x_R I (nI n) b c f (nI q)) J) := by
  by_cases h : n - q = 4
  · exact x_itnP1 hl hl2 hq hn h
  · have e : t_nm1 (x_T I) q n = false := by
      unfold t_nm1
      have : Nat.beq (n - q) 4 = false := by
        cases hb : Nat.beq (n - q) 4 with
        | true => exact absurd (Nat.eq_of_beq_eq_true hb) h
        | false => rfl
      rw [this]; rfl
    rw [e]
    exact x_itnN1 hl hl2 hq hn h
def t_nm2 (t : Nat → Int32) (q n : Nat) : Bool := cond (Nat.beq (n - q) 4) (cond (decide (t (q + 0) = 116)) (cond (decide (t (q + 1) = 111)) (cond (decide (t (q + 2) = 111)) (cond (decide (t (q + 3) = 108)) (true) false) false) false) false) false
theorem x_itnP2 {d : Nat} {sw : Bool} {gc : Nat} {I : Nat → Nat → Int32} {J : Nat → Nat → Int64} {l : Nat} (hl : I 2 1 = nI l) (hl2 : l ≤ 200) {q n : Nat} (hq : q ≤ n) (hn : n ≤ 900) {b c f : Int32} (hlen : n - q = 4) : GM (d + 4) 37 [.ref 1, .float 5] (qS sw gc (x_R I (nI n) b c f (nI q)) J) (some (.int (q_b (t_nm2 (x_T I) q n)))) (qS sw gc (x_R I (nI n) b c f (nI q)) J) := by
  refine GM_of (by decide) x_out_n (Nat.le_of_ble_eq_true rfl) q_bn ?_
  refine G_st (L := 89) (k := 0) (0, [some (.ref 1), some (.float 5), none], [], qS sw gc (x_R I (nI n) b c f (nI q)) J) (q_hn _ _ _ _) rfl ?_
  refine G_st (L := 89) (k := 6) (10, [some (.ref 1), some (.float 5), none], [.float 5, .int ((nI n) - (nI q))], qS sw gc (x_R I (nI n) b c f (nI q)) J) (q_hn _ _ _ _) rfl ?_
  rw [show (nI n) - (nI q) = nI (n - q) from (q_subP rfl rfl (by omega))]
  refine G_callK (i := 2) (as := []) (rest := [.int (nI (n - q))]) rfl rfl (by decide) rfl rfl rfl (Nat.le_of_ble_eq_true rfl) k_len2 x_out_n ?_
  refine G_st (L := 89) (k := 0) (13, [some (.ref 1), some (.float 5), none], [.int 4, .int (nI (n - q))], qS sw gc (x_R I (nI n) b c f (nI q)) J) (q_hn _ _ _ _) rfl ?_
  refine G_icmp_eq 18 rfl rfl (fun _ => ?_) (fun h9 => absurd (congrArg nI hlen) h9)
  refine G_st (L := 89) (k := 4) (22, [some (.ref 1), some (.float 5), some (.int 0)], [.float 5, .int 0], qS sw gc (x_R I (nI n) b c f (nI q)) J) (q_hn _ _ _ _) rfl ?_
  refine G_callK (i := 2) (as := []) (rest := [.int 0]) rfl rfl (by decide) rfl rfl rfl (Nat.le_of_ble_eq_true rfl) k_len2 x_out_n ?_
  refine G_st (L := 89) (k := 0) (25, [some (.ref 1), some (.float 5), some (.int 0)], [.int 4, .int 0], qS sw gc (x_R I (nI n) b c f (nI q)) J) (q_hn _ _ _ _) rfl ?_
  refine G_icmp_ge 57 rfl rfl (fun h9 => absurd h9 (by decide)) (fun _ => ?_)
  refine G_st (L := 89) (k := 6) (38, [some (.ref 1), some (.float 5), some (.int 0)], [.int ((nI q) + 0), .ref 2], qS sw gc (x_R I (nI n) b c f (nI q)) J) (q_hn _ _ _ _) rfl ?_
  rw [show (nI q) + 0 = nI (q + 0) from (q_addP rfl rfl)]
  refine G_callV (b := 2) (ci := 6) (as := [.int (nI (q + 0))]) (rest := []) rfl rfl rfl (q_lt (by decide)) (by decide) rfl rfl (Nat.le_of_ble_eq_true rfl) (x_byT (l := l) hl hl2 (by omega)) x_out_n ?_
  refine G_st (L := 89) (k := 2) (43, [some (.ref 1), some (.float 5), some (.int 0)], [.int 0, .float 5, .int (x_T I (q + 0))], qS sw gc (x_R I (nI n) b c f (nI q)) J) (q_hn _ _ _ _) rfl ?_
  refine G_callK (i := 2) (as := [.int 0]) (rest := [.int (x_T I (q + 0))]) rfl rfl (by decide) rfl rfl rfl (Nat.le_of_ble_eq_true rfl) k_ch_2_0 x_out_n ?_
  refine G_st (L := 89) (k := 0) (46, [some (.ref 1), some (.float 5), some (.int 0)], [.int 116, .int (x_T I (q + 0))], qS sw gc (x_R I (nI n) b c f (nI q)) J) (q_hn _ _ _ _) rfl ?_
  refine G_icmp_eq 51 rfl rfl (fun h1 => ?_) (fun h1 => ?_)
  · skip
    refine G_st (L := 89) (k := 4) (22, [some (.ref 1), some (.float 5), some (.int 1)], [.float 5, .int 1], qS sw gc (x_R I (nI n) b c f (nI q)) J) (q_hn _ _ _ _) rfl ?_
    refine G_callK (i := 2) (as := []) (rest := [.int 1]) rfl rfl (by decide) rfl rfl rfl (Nat.le_of_ble_eq_true rfl) k_len2 x_out_n ?_
    refine G_st (L := 89) (k := 0) (25, [some (.ref 1), some (.float 5), some (.int 1)], [.int 4, .int 1], qS sw gc (x_R I (nI n) b c f (nI q)) J) (q_hn _ _ _ _) rfl ?_
    refine G_icmp_ge 57 rfl rfl (fun h9 => absurd h9 (by decide)) (fun _ => ?_)
    refine G_st (L := 89) (k := 6) (38, [some (.ref 1), some (.float 5), some (.int 1)], [.int ((nI q) + 1), .ref 2], qS sw gc (x_R I (nI n) b c f (nI q)) J) (q_hn _ _ _ _) rfl ?_
    rw [show (nI q) + 1 = nI (q + 1) from (q_addP rfl rfl)]
    refine G_callV (b := 2) (ci := 6) (as := [.int (nI (q + 1))]) (rest := []) rfl rfl rfl (q_lt (by decide)) (by decide) rfl rfl (Nat.le_of_ble_eq_true rfl) (x_byT (l := l) hl hl2 (by omega)) x_out_n ?_
    refine G_st (L := 89) (k := 2) (43, [some (.ref 1), some (.float 5), some (.int 1)], [.int 1, .float 5, .int (x_T I (q + 1))], qS sw gc (x_R I (nI n) b c f (nI q)) J) (q_hn _ _ _ _) rfl ?_
    refine G_callK (i := 2) (as := [.int 1]) (rest := [.int (x_T I (q + 1))]) rfl rfl (by decide) rfl rfl rfl (Nat.le_of_ble_eq_true rfl) k_ch_2_1 x_out_n ?_
    refine G_st (L := 89) (k := 0) (46, [some (.ref 1), some (.float 5), some (.int 1)], [.int 111, .int (x_T I (q + 1))], qS sw gc (x_R I (nI n) b c f (nI q)) J) (q_hn _ _ _ _) rfl ?_
    refine G_icmp_eq 51 rfl rfl (fun h2 => ?_) (fun h2 => ?_)
    · skip
      refine G_st (L := 89) (k := 4) (22, [some (.ref 1), some (.float 5), some (.int 2)], [.float 5, .int 2], qS sw gc (x_R I (nI n) b c f (nI q)) J) (q_hn _ _ _ _) rfl ?_
      refine G_callK (i := 2) (as := []) (rest := [.int 2]) rfl rfl (by decide) rfl rfl rfl (Nat.le_of_ble_eq_true rfl) k_len2 x_out_n ?_
      refine G_st (L := 89) (k := 0) (25, [some (.ref 1), some (.float 5), some (.int 2)], [.int 4, .int 2], qS sw gc (x_R I (nI n) b c f (nI q)) J) (q_hn _ _ _ _) rfl ?_
      refine G_icmp_ge 57 rfl rfl (fun h9 => absurd h9 (by decide)) (fun _ => ?_)
      refine G_st (L := 89) (k := 6) (38, [some (.ref 1), some (.float 5), some (.int 2)], [.int ((nI q) + 2), .ref 2], qS sw gc (x_R I (nI n) b c f (nI q)) J) (q_hn _ _ _ _) rfl ?_
      rw [show (nI q) + 2 = nI (q + 2) from (q_addP rfl rfl)]
      refine G_callV (b := 2) (ci := 6) (as := [.int (nI (q + 2))]) (rest := []) rfl rfl rfl (q_lt (by decide)) (by decide) rfl rfl (Nat.le_of_ble_eq_true rfl) (x_byT (l := l) hl hl2 (by omega)) x_out_n ?_
      refine G_st (L := 89) (k := 2) (43, [some (.ref 1), some (.float 5), some (.int 2)], [.int 2, .float 5, .int (x_T I (q + 2))], qS sw gc (x_R I (nI n) b c f (nI q)) J) (q_hn _ _ _ _) rfl ?_
      refine G_callK (i := 2) (as := [.int 2]) (rest := [.int (x_T I (q + 2))]) rfl rfl (by decide) rfl rfl rfl (Nat.le_of_ble_eq_true rfl) k_ch_2_2 x_out_n ?_
      refine G_st (L := 89) (k := 0) (46, [some (.ref 1), some (.float 5), some (.int 2)], [.int 111, .int (x_T I (q + 2))], qS sw gc (x_R I (nI n) b c f (nI q)) J) (q_hn _ _ _ _) rfl ?_
      refine G_icmp_eq 51 rfl rfl (fun h3 => ?_) (fun h3 => ?_)
      · skip
        refine G_st (L := 89) (k := 4) (22, [some (.ref 1), some (.float 5), some (.int 3)], [.float 5, .int 3], qS sw gc (x_R I (nI n) b c f (nI q)) J) (q_hn _ _ _ _) rfl ?_
        refine G_callK (i := 2) (as := []) (rest := [.int 3]) rfl rfl (by decide) rfl rfl rfl (Nat.le_of_ble_eq_true rfl) k_len2 x_out_n ?_
        refine G_st (L := 89) (k := 0) (25, [some (.ref 1), some (.float 5), some (.int 3)], [.int 4, .int 3], qS sw gc (x_R I (nI n) b c f (nI q)) J) (q_hn _ _ _ _) rfl ?_
        refine G_icmp_ge 57 rfl rfl (fun h9 => absurd h9 (by decide)) (fun _ => ?_)
        refine G_st (L := 89) (k := 6) (38, [some (.ref 1), some (.float 5), some (.int 3)], [.int ((nI q) + 3), .ref 2], qS sw gc (x_R I (nI n) b c f (nI q)) J) (q_hn _ _ _ _) rfl ?_
        rw [show (nI q) + 3 = nI (q + 3) from (q_addP rfl rfl)]
        refine G_callV (b := 2) (ci := 6) (as := [.int (nI (q + 3))]) (rest := []) rfl rfl rfl (q_lt (by decide)) (by decide) rfl rfl (Nat.le_of_ble_eq_true rfl) (x_byT (l := l) hl hl2 (by omega)) x_out_n ?_
        refine G_st (L := 89) (k := 2) (43, [some (.ref 1), some (.float 5), some (.int 3)], [.int 3, .float 5, .int (x_T I (q + 3))], qS sw gc (x_R I (nI n) b c f (nI q)) J) (q_hn _ _ _ _) rfl ?_
        refine G_callK (i := 2) (as := [.int 3]) (rest := [.int (x_T I (q + 3))]) rfl rfl (by decide) rfl rfl rfl (Nat.le_of_ble_eq_true rfl) k_ch_2_3 x_out_n ?_
        refine G_st (L := 89) (k := 0) (46, [some (.ref 1), some (.float 5), some (.int 3)], [.int 108, .int (x_T I (q + 3))], qS sw gc (x_R I (nI n) b c f (nI q)) J) (q_hn _ _ _ _) rfl ?_
        refine G_icmp_eq 51 rfl rfl (fun h4 => ?_) (fun h4 => ?_)
        · skip
          refine G_st (L := 89) (k := 4) (22, [some (.ref 1), some (.float 5), some (.int 4)], [.float 5, .int 4], qS sw gc (x_R I (nI n) b c f (nI q)) J) (q_hn _ _ _ _) rfl ?_
          refine G_callK (i := 2) (as := []) (rest := [.int 4]) rfl rfl (by decide) rfl rfl rfl (Nat.le_of_ble_eq_true rfl) k_len2 x_out_n ?_
          refine G_st (L := 89) (k := 0) (25, [some (.ref 1), some (.float 5), some (.int 4)], [.int 4, .int 4], qS sw gc (x_R I (nI n) b c f (nI q)) J) (q_hn _ _ _ _) rfl ?_
          refine G_icmp_ge 57 rfl rfl (fun _ => ?_) (fun h9 => absurd h9 (by decide))
          refine G_st (L := 89) (k := 1) (58, [some (.ref 1), some (.float 5), some (.int 4)], [.int 1], qS sw gc (x_R I (nI n) b c f (nI q)) J) (q_hn _ _ _ _) rfl ?_
          exact G_iret rfl rfl (by unfold t_nm2; rw [show Nat.beq (n - q) 4 = true by rw [hlen]; rfl, decide_eq_true h1, decide_eq_true h2, decide_eq_true h3, decide_eq_true h4]; rfl) rfl
        · skip
          refine G_st (L := 89) (k := 1) (50, [some (.ref 1), some (.float 5), some (.int 3)], [.int 0], qS sw gc (x_R I (nI n) b c f (nI q)) J) (q_hn _ _ _ _) rfl ?_
          exact G_iret rfl rfl (by unfold t_nm2; rw [show Nat.beq (n - q) 4 = true by rw [hlen]; rfl, decide_eq_true h1, decide_eq_true h2, decide_eq_true h3, decide_eq_false h4]; rfl) rfl
      · skip
        refine G_st (L := 89) (k := 1) (50, [some (.ref 1), some (.float 5), some (.int 2)], [.int 0], qS sw gc (x_R I (nI n) b c f (nI q)) J) (q_hn _ _ _ _) rfl ?_
        exact G_iret rfl rfl (by unfold t_nm2; rw [show Nat.beq (n - q) 4 = true by rw [hlen]; rfl, decide_eq_true h1, decide_eq_true h2, decide_eq_false h3]; rfl) rfl
    · skip
      refine G_st (L := 89) (k := 1) (50, [some (.ref 1), some (.float 5), some (.int 1)], [.int 0], qS sw gc (x_R I (nI n) b c f (nI q)) J) (q_hn _ _ _ _) rfl ?_
      exact G_iret rfl rfl (by unfold t_nm2; rw [show Nat.beq (n - q) 4 = true by rw [hlen]; rfl, decide_eq_true h1, decide_eq_false h2]; rfl) rfl
  · skip
    refine G_st (L := 89) (k := 1) (50, [some (.ref 1), some (.float 5), some (.int 0)], [.int 0], qS sw gc (x_R I (nI n) b c f (nI q)) J) (q_hn _ _ _ _) rfl ?_
    exact G_iret rfl rfl (by unfold t_nm2; rw [show Nat.beq (n - q) 4 = true by rw [hlen]; rfl, decide_eq_false h1]; rfl) rfl
theorem x_itnN2 {d : Nat} {sw : Bool} {gc : Nat} {I : Nat → Nat → Int32} {J : Nat → Nat → Int64} {l : Nat} (hl : I 2 1 = nI l) (hl2 : l ≤ 200) {q n : Nat} (hq : q ≤ n) (hn : n ≤ 900) {b c f : Int32} (hlen : ¬ n - q = 4) : GM (d + 4) 37 [.ref 1, .float 5] (qS sw gc (x_R I (nI n) b c f (nI q)) J) (some (.int 0)) (qS sw gc (x_R I (nI n) b c f (nI q)) J) := by
  refine GM_of (by decide) x_out_n (Nat.le_of_ble_eq_true rfl) rfl ?_
  refine G_st (L := 89) (k := 0) (0, [some (.ref 1), some (.float 5), none], [], qS sw gc (x_R I (nI n) b c f (nI q)) J) (q_hn _ _ _ _) rfl ?_
  refine G_st (L := 89) (k := 6) (10, [some (.ref 1), some (.float 5), none], [.float 5, .int ((nI n) - (nI q))], qS sw gc (x_R I (nI n) b c f (nI q)) J) (q_hn _ _ _ _) rfl ?_
  rw [show (nI n) - (nI q) = nI (n - q) from (q_subP rfl rfl (by omega))]
  refine G_callK (i := 2) (as := []) (rest := [.int (nI (n - q))]) rfl rfl (by decide) rfl rfl rfl (Nat.le_of_ble_eq_true rfl) k_len2 x_out_n ?_
  refine G_st (L := 89) (k := 0) (13, [some (.ref 1), some (.float 5), none], [.int 4, .int (nI (n - q))], qS sw gc (x_R I (nI n) b c f (nI q)) J) (q_hn _ _ _ _) rfl ?_
  refine G_icmp_eq 18 rfl rfl (fun h9 => absurd h9 (fun e9 => absurd ((nI_eq (b := 4) (by omega) (by decide)).mp e9) hlen)) (fun _ => ?_)
  refine G_st (L := 89) (k := 1) (17, [some (.ref 1), some (.float 5), none], [.int 0], qS sw gc (x_R I (nI n) b c f (nI q)) J) (q_hn _ _ _ _) rfl ?_
  exact G_iret rfl rfl rfl rfl
theorem x_isTakenName2 {d : Nat} {sw : Bool} {gc : Nat} {I : Nat → Nat → Int32} {J : Nat → Nat → Int64} {l : Nat} (hl : I 2 1 = nI l) (hl2 : l ≤ 200) {q n : Nat} (hq : q ≤ n) (hn : n ≤ 900) {b c f : Int32} : GM (d + 4) 37 [.ref 1, .float 5] (qS sw gc (x_R I (nI n) b c f (nI q)) J) (some (.int (q_b (t_nm2 (x_T I) q n)))) (qS sw gc (x_R I (nI n) b c f (nI q)) J) := by
  by_cases h : n - q = 4
  · exact x_itnP2 hl hl2 hq hn h
  · have e : t_nm2 (x_T I) q n = false := by
      unfold t_nm2
      have : Nat.beq (n - q) 4 = false := by
        cases hb : Nat.beq (n - q) 4 with
        | true => exact absurd (Nat.eq_of_beq_eq_true hb) h
        | false => rfl
      rw [this]; rfl
    rw [e]
    exact x_itnN2 hl hl2 hq hn h
def t_nm3 (t : Nat → Int32) (q n : Nat) : Bool := cond (Nat.beq (n - q) 4) (cond (decide (t (q + 0) = 99)) (cond (decide (t (q + 1) = 108)) (cond (decide (t (q + 2) = 117)) (cond (decide (t (q + 3) = 98)) (true) false) false) false) false) false
theorem x_itnP3 {d : Nat} {sw : Bool} {gc : Nat} {I : Nat → Nat → Int32} {J : Nat → Nat → Int64} {l : Nat} (hl : I 2 1 = nI l) (hl2 : l ≤ 200) {q n : Nat} (hq : q ≤ n) (hn : n ≤ 900) {b c f : Int32} (hlen : n - q = 4) : GM (d + 4) 37 [.ref 1, .float 6] (qS sw gc (x_R I (nI n) b c f (nI q)) J) (some (.int (q_b (t_nm3 (x_T I) q n)))) (qS sw gc (x_R I (nI n) b c f (nI q)) J) := by
  refine GM_of (by decide) x_out_n (Nat.le_of_ble_eq_true rfl) q_bn ?_
  refine G_st (L := 89) (k := 0) (0, [some (.ref 1), some (.float 6), none], [], qS sw gc (x_R I (nI n) b c f (nI q)) J) (q_hn _ _ _ _) rfl ?_
  refine G_st (L := 89) (k := 6) (10, [some (.ref 1), some (.float 6), none], [.float 6, .int ((nI n) - (nI q))], qS sw gc (x_R I (nI n) b c f (nI q)) J) (q_hn _ _ _ _) rfl ?_
  rw [show (nI n) - (nI q) = nI (n - q) from (q_subP rfl rfl (by omega))]
  refine G_callK (i := 3) (as := []) (rest := [.int (nI (n - q))]) rfl rfl (by decide) rfl rfl rfl (Nat.le_of_ble_eq_true rfl) k_len3 x_out_n ?_
  refine G_st (L := 89) (k := 0) (13, [some (.ref 1), some (.float 6), none], [.int 4, .int (nI (n - q))], qS sw gc (x_R I (nI n) b c f (nI q)) J) (q_hn _ _ _ _) rfl ?_
  refine G_icmp_eq 18 rfl rfl (fun _ => ?_) (fun h9 => absurd (congrArg nI hlen) h9)
  refine G_st (L := 89) (k := 4) (22, [some (.ref 1), some (.float 6), some (.int 0)], [.float 6, .int 0], qS sw gc (x_R I (nI n) b c f (nI q)) J) (q_hn _ _ _ _) rfl ?_
  refine G_callK (i := 3) (as := []) (rest := [.int 0]) rfl rfl (by decide) rfl rfl rfl (Nat.le_of_ble_eq_true rfl) k_len3 x_out_n ?_
  refine G_st (L := 89) (k := 0) (25, [some (.ref 1), some (.float 6), some (.int 0)], [.int 4, .int 0], qS sw gc (x_R I (nI n) b c f (nI q)) J) (q_hn _ _ _ _) rfl ?_
  refine G_icmp_ge 57 rfl rfl (fun h9 => absurd h9 (by decide)) (fun _ => ?_)
  refine G_st (L := 89) (k := 6) (38, [some (.ref 1), some (.float 6), some (.int 0)], [.int ((nI q) + 0), .ref 2], qS sw gc (x_R I (nI n) b c f (nI q)) J) (q_hn _ _ _ _) rfl ?_
  rw [show (nI q) + 0 = nI (q + 0) from (q_addP rfl rfl)]
  refine G_callV (b := 2) (ci := 6) (as := [.int (nI (q + 0))]) (rest := []) rfl rfl rfl (q_lt (by decide)) (by decide) rfl rfl (Nat.le_of_ble_eq_true rfl) (x_byT (l := l) hl hl2 (by omega)) x_out_n ?_
  refine G_st (L := 89) (k := 2) (43, [some (.ref 1), some (.float 6), some (.int 0)], [.int 0, .float 6, .int (x_T I (q + 0))], qS sw gc (x_R I (nI n) b c f (nI q)) J) (q_hn _ _ _ _) rfl ?_
  refine G_callK (i := 3) (as := [.int 0]) (rest := [.int (x_T I (q + 0))]) rfl rfl (by decide) rfl rfl rfl (Nat.le_of_ble_eq_true rfl) k_ch_3_0 x_out_n ?_
  refine G_st (L := 89) (k := 0) (46, [some (.ref 1), some (.float 6), some (.int 0)], [.int 99, .int (x_T I (q + 0))], qS sw gc (x_R I (nI n) b c f (nI q)) J) (q_hn _ _ _ _) rfl ?_
  refine G_icmp_eq 51 rfl rfl (fun h1 => ?_) (fun h1 => ?_)
  · skip
    refine G_st (L := 89) (k := 4) (22, [some (.ref 1), some (.float 6), some (.int 1)], [.float 6, .int 1], qS sw gc (x_R I (nI n) b c f (nI q)) J) (q_hn _ _ _ _) rfl ?_
    refine G_callK (i := 3) (as := []) (rest := [.int 1]) rfl rfl (by decide) rfl rfl rfl (Nat.le_of_ble_eq_true rfl) k_len3 x_out_n ?_
    refine G_st (L := 89) (k := 0) (25, [some (.ref 1), some (.float 6), some (.int 1)], [.int 4, .int 1], qS sw gc (x_R I (nI n) b c f (nI q)) J) (q_hn _ _ _ _) rfl ?_
    refine G_icmp_ge 57 rfl rfl (fun h9 => absurd h9 (by decide)) (fun _ => ?_)
    refine G_st (L := 89) (k := 6) (38, [some (.ref 1), some (.float 6), some (.int 1)], [.int ((nI q) + 1), .ref 2], qS sw gc (x_R I (nI n) b c f (nI q)) J) (q_hn _ _ _ _) rfl ?_
    rw [show (nI q) + 1 = nI (q + 1) from (q_addP rfl rfl)]
    refine G_callV (b := 2) (ci := 6) (as := [.int (nI (q + 1))]) (rest := []) rfl rfl rfl (q_lt (by decide)) (by decide) rfl rfl (Nat.le_of_ble_eq_true rfl) (x_byT (l := l) hl hl2 (by omega)) x_out_n ?_
    refine G_st (L := 89) (k := 2) (43, [some (.ref 1), some (.float 6), some (.int 1)], [.int 1, .float 6, .int (x_T I (q + 1))], qS sw gc (x_R I (nI n) b c f (nI q)) J) (q_hn _ _ _ _) rfl ?_
    refine G_callK (i := 3) (as := [.int 1]) (rest := [.int (x_T I (q + 1))]) rfl rfl (by decide) rfl rfl rfl (Nat.le_of_ble_eq_true rfl) k_ch_3_1 x_out_n ?_
    refine G_st (L := 89) (k := 0) (46, [some (.ref 1), some (.float 6), some (.int 1)], [.int 108, .int (x_T I (q + 1))], qS sw gc (x_R I (nI n) b c f (nI q)) J) (q_hn _ _ _ _) rfl ?_
    refine G_icmp_eq 51 rfl rfl (fun h2 => ?_) (fun h2 => ?_)
    · skip
      refine G_st (L := 89) (k := 4) (22, [some (.ref 1), some (.float 6), some (.int 2)], [.float 6, .int 2], qS sw gc (x_R I (nI n) b c f (nI q)) J) (q_hn _ _ _ _) rfl ?_
      refine G_callK (i := 3) (as := []) (rest := [.int 2]) rfl rfl (by decide) rfl rfl rfl (Nat.le_of_ble_eq_true rfl) k_len3 x_out_n ?_
      refine G_st (L := 89) (k := 0) (25, [some (.ref 1), some (.float 6), some (.int 2)], [.int 4, .int 2], qS sw gc (x_R I (nI n) b c f (nI q)) J) (q_hn _ _ _ _) rfl ?_
      refine G_icmp_ge 57 rfl rfl (fun h9 => absurd h9 (by decide)) (fun _ => ?_)
      refine G_st (L := 89) (k := 6) (38, [some (.ref 1), some (.float 6), some (.int 2)], [.int ((nI q) + 2), .ref 2], qS sw gc (x_R I (nI n) b c f (nI q)) J) (q_hn _ _ _ _) rfl ?_
      rw [show (nI q) + 2 = nI (q + 2) from (q_addP rfl rfl)]
      refine G_callV (b := 2) (ci := 6) (as := [.int (nI (q + 2))]) (rest := []) rfl rfl rfl (q_lt (by decide)) (by decide) rfl rfl (Nat.le_of_ble_eq_true rfl) (x_byT (l := l) hl hl2 (by omega)) x_out_n ?_
      refine G_st (L := 89) (k := 2) (43, [some (.ref 1), some (.float 6), some (.int 2)], [.int 2, .float 6, .int (x_T I (q + 2))], qS sw gc (x_R I (nI n) b c f (nI q)) J) (q_hn _ _ _ _) rfl ?_
      refine G_callK (i := 3) (as := [.int 2]) (rest := [.int (x_T I (q + 2))]) rfl rfl (by decide) rfl rfl rfl (Nat.le_of_ble_eq_true rfl) k_ch_3_2 x_out_n ?_
      refine G_st (L := 89) (k := 0) (46, [some (.ref 1), some (.float 6), some (.int 2)], [.int 117, .int (x_T I (q + 2))], qS sw gc (x_R I (nI n) b c f (nI q)) J) (q_hn _ _ _ _) rfl ?_
      refine G_icmp_eq 51 rfl rfl (fun h3 => ?_) (fun h3 => ?_)
      · skip
        refine G_st (L := 89) (k := 4) (22, [some (.ref 1), some (.float 6), some (.int 3)], [.float 6, .int 3], qS sw gc (x_R I (nI n) b c f (nI q)) J) (q_hn _ _ _ _) rfl ?_
        refine G_callK (i := 3) (as := []) (rest := [.int 3]) rfl rfl (by decide) rfl rfl rfl (Nat.le_of_ble_eq_true rfl) k_len3 x_out_n ?_
        refine G_st (L := 89) (k := 0) (25, [some (.ref 1), some (.float 6), some (.int 3)], [.int 4, .int 3], qS sw gc (x_R I (nI n) b c f (nI q)) J) (q_hn _ _ _ _) rfl ?_
        refine G_icmp_ge 57 rfl rfl (fun h9 => absurd h9 (by decide)) (fun _ => ?_)
        refine G_st (L := 89) (k := 6) (38, [some (.ref 1), some (.float 6), some (.int 3)], [.int ((nI q) + 3), .ref 2], qS sw gc (x_R I (nI n) b c f (nI q)) J) (q_hn _ _ _ _) rfl ?_
        rw [show (nI q) + 3 = nI (q + 3) from (q_addP rfl rfl)]
        refine G_callV (b := 2) (ci := 6) (as := [.int (nI (q + 3))]) (rest := []) rfl rfl rfl (q_lt (by decide)) (by decide) rfl rfl (Nat.le_of_ble_eq_true rfl) (x_byT (l := l) hl hl2 (by omega)) x_out_n ?_
        refine G_st (L := 89) (k := 2) (43, [some (.ref 1), some (.float 6), some (.int 3)], [.int 3, .float 6, .int (x_T I (q + 3))], qS sw gc (x_R I (nI n) b c f (nI q)) J) (q_hn _ _ _ _) rfl ?_
        refine G_callK (i := 3) (as := [.int 3]) (rest := [.int (x_T I (q + 3))]) rfl rfl (by decide) rfl rfl rfl (Nat.le_of_ble_eq_true rfl) k_ch_3_3 x_out_n ?_
        refine G_st (L := 89) (k := 0) (46, [some (.ref 1), some (.float 6), some (.int 3)], [.int 98, .int (x_T I (q + 3))], qS sw gc (x_R I (nI n) b c f (nI q)) J) (q_hn _ _ _ _) rfl ?_
        refine G_icmp_eq 51 rfl rfl (fun h4 => ?_) (fun h4 => ?_)
        · skip
          refine G_st (L := 89) (k := 4) (22, [some (.ref 1), some (.float 6), some (.int 4)], [.float 6, .int 4], qS sw gc (x_R I (nI n) b c f (nI q)) J) (q_hn _ _ _ _) rfl ?_
          refine G_callK (i := 3) (as := []) (rest := [.int 4]) rfl rfl (by decide) rfl rfl rfl (Nat.le_of_ble_eq_true rfl) k_len3 x_out_n ?_
          refine G_st (L := 89) (k := 0) (25, [some (.ref 1), some (.float 6), some (.int 4)], [.int 4, .int 4], qS sw gc (x_R I (nI n) b c f (nI q)) J) (q_hn _ _ _ _) rfl ?_
          refine G_icmp_ge 57 rfl rfl (fun _ => ?_) (fun h9 => absurd h9 (by decide))
          refine G_st (L := 89) (k := 1) (58, [some (.ref 1), some (.float 6), some (.int 4)], [.int 1], qS sw gc (x_R I (nI n) b c f (nI q)) J) (q_hn _ _ _ _) rfl ?_
          exact G_iret rfl rfl (by unfold t_nm3; rw [show Nat.beq (n - q) 4 = true by rw [hlen]; rfl, decide_eq_true h1, decide_eq_true h2, decide_eq_true h3, decide_eq_true h4]; rfl) rfl
        · skip
          refine G_st (L := 89) (k := 1) (50, [some (.ref 1), some (.float 6), some (.int 3)], [.int 0], qS sw gc (x_R I (nI n) b c f (nI q)) J) (q_hn _ _ _ _) rfl ?_
          exact G_iret rfl rfl (by unfold t_nm3; rw [show Nat.beq (n - q) 4 = true by rw [hlen]; rfl, decide_eq_true h1, decide_eq_true h2, decide_eq_true h3, decide_eq_false h4]; rfl) rfl
      · skip
        refine G_st (L := 89) (k := 1) (50, [some (.ref 1), some (.float 6), some (.int 2)], [.int 0], qS sw gc (x_R I (nI n) b c f (nI q)) J) (q_hn _ _ _ _) rfl ?_
        exact G_iret rfl rfl (by unfold t_nm3; rw [show Nat.beq (n - q) 4 = true by rw [hlen]; rfl, decide_eq_true h1, decide_eq_true h2, decide_eq_false h3]; rfl) rfl
    · skip
      refine G_st (L := 89) (k := 1) (50, [some (.ref 1), some (.float 6), some (.int 1)], [.int 0], qS sw gc (x_R I (nI n) b c f (nI q)) J) (q_hn _ _ _ _) rfl ?_
      exact G_iret rfl rfl (by unfold t_nm3; rw [show Nat.beq (n - q) 4 = true by rw [hlen]; rfl, decide_eq_true h1, decide_eq_false h2]; rfl) rfl
  · skip
    refine G_st (L := 89) (k := 1) (50, [some (.ref 1), some (.float 6), some (.int 0)], [.int 0], qS sw gc (x_R I (nI n) b c f (nI q)) J) (q_hn _ _ _ _) rfl ?_
    exact G_iret rfl rfl (by unfold t_nm3; rw [show Nat.beq (n - q) 4 = true by rw [hlen]; rfl, decide_eq_false h1]; rfl) rfl
theorem x_itnN3 {d : Nat} {sw : Bool} {gc : Nat} {I : Nat → Nat → Int32} {J : Nat → Nat → Int64} {l : Nat} (hl : I 2 1 = nI l) (hl2 : l ≤ 200) {q n : Nat} (hq : q ≤ n) (hn : n ≤ 900) {b c f : Int32} (hlen : ¬ n - q = 4) : GM (d + 4) 37 [.ref 1, .float 6] (qS sw gc (x_R I (nI n) b c f (nI q)) J) (some (.int 0)) (qS sw gc (x_R I (nI n) b c f (nI q)) J) := by
  refine GM_of (by decide) x_out_n (Nat.le_of_ble_eq_true rfl) rfl ?_
  refine G_st (L := 89) (k := 0) (0, [some (.ref 1), some (.float 6), none], [], qS sw gc (x_R I (nI n) b c f (nI q)) J) (q_hn _ _ _ _) rfl ?_
  refine G_st (L := 89) (k := 6) (10, [some (.ref 1), some (.float 6), none], [.float 6, .int ((nI n) - (nI q))], qS sw gc (x_R I (nI n) b c f (nI q)) J) (q_hn _ _ _ _) rfl ?_
  rw [show (nI n) - (nI q) = nI (n - q) from (q_subP rfl rfl (by omega))]
  refine G_callK (i := 3) (as := []) (rest := [.int (nI (n - q))]) rfl rfl (by decide) rfl rfl rfl (Nat.le_of_ble_eq_true rfl) k_len3 x_out_n ?_
  refine G_st (L := 89) (k := 0) (13, [some (.ref 1), some (.float 6), none], [.int 4, .int (nI (n - q))], qS sw gc (x_R I (nI n) b c f (nI q)) J) (q_hn _ _ _ _) rfl ?_
  refine G_icmp_eq 18 rfl rfl (fun h9 => absurd h9 (fun e9 => absurd ((nI_eq (b := 4) (by omega) (by decide)).mp e9) hlen)) (fun _ => ?_)
  refine G_st (L := 89) (k := 1) (17, [some (.ref 1), some (.float 6), none], [.int 0], qS sw gc (x_R I (nI n) b c f (nI q)) J) (q_hn _ _ _ _) rfl ?_
  exact G_iret rfl rfl rfl rfl
theorem x_isTakenName3 {d : Nat} {sw : Bool} {gc : Nat} {I : Nat → Nat → Int32} {J : Nat → Nat → Int64} {l : Nat} (hl : I 2 1 = nI l) (hl2 : l ≤ 200) {q n : Nat} (hq : q ≤ n) (hn : n ≤ 900) {b c f : Int32} : GM (d + 4) 37 [.ref 1, .float 6] (qS sw gc (x_R I (nI n) b c f (nI q)) J) (some (.int (q_b (t_nm3 (x_T I) q n)))) (qS sw gc (x_R I (nI n) b c f (nI q)) J) := by
  by_cases h : n - q = 4
  · exact x_itnP3 hl hl2 hq hn h
  · have e : t_nm3 (x_T I) q n = false := by
      unfold t_nm3
      have : Nat.beq (n - q) 4 = false := by
        cases hb : Nat.beq (n - q) 4 with
        | true => exact absurd (Nat.eq_of_beq_eq_true hb) h
        | false => rfl
      rw [this]; rfl
    rw [e]
    exact x_itnN3 hl hl2 hq hn h
def t_nm4 (t : Nat → Int32) (q n : Nat) : Bool := cond (Nat.beq (n - q) 5) (cond (decide (t (q + 0) = 112)) (cond (decide (t (q + 1) = 111)) (cond (decide (t (q + 2) = 117)) (cond (decide (t (q + 3) = 110)) (cond (decide (t (q + 4) = 100)) (true) false) false) false) false) false) false
theorem x_itnP4 {d : Nat} {sw : Bool} {gc : Nat} {I : Nat → Nat → Int32} {J : Nat → Nat → Int64} {l : Nat} (hl : I 2 1 = nI l) (hl2 : l ≤ 200) {q n : Nat} (hq : q ≤ n) (hn : n ≤ 900) {b c f : Int32} (hlen : n - q = 5) : GM (d + 4) 37 [.ref 1, .float 7] (qS sw gc (x_R I (nI n) b c f (nI q)) J) (some (.int (q_b (t_nm4 (x_T I) q n)))) (qS sw gc (x_R I (nI n) b c f (nI q)) J) := by
  refine GM_of (by decide) x_out_n (Nat.le_of_ble_eq_true rfl) q_bn ?_
  refine G_st (L := 89) (k := 0) (0, [some (.ref 1), some (.float 7), none], [], qS sw gc (x_R I (nI n) b c f (nI q)) J) (q_hn _ _ _ _) rfl ?_
  refine G_st (L := 89) (k := 6) (10, [some (.ref 1), some (.float 7), none], [.float 7, .int ((nI n) - (nI q))], qS sw gc (x_R I (nI n) b c f (nI q)) J) (q_hn _ _ _ _) rfl ?_
  rw [show (nI n) - (nI q) = nI (n - q) from (q_subP rfl rfl (by omega))]
  refine G_callK (i := 4) (as := []) (rest := [.int (nI (n - q))]) rfl rfl (by decide) rfl rfl rfl (Nat.le_of_ble_eq_true rfl) k_len4 x_out_n ?_
  refine G_st (L := 89) (k := 0) (13, [some (.ref 1), some (.float 7), none], [.int 5, .int (nI (n - q))], qS sw gc (x_R I (nI n) b c f (nI q)) J) (q_hn _ _ _ _) rfl ?_
  refine G_icmp_eq 18 rfl rfl (fun _ => ?_) (fun h9 => absurd (congrArg nI hlen) h9)
  refine G_st (L := 89) (k := 4) (22, [some (.ref 1), some (.float 7), some (.int 0)], [.float 7, .int 0], qS sw gc (x_R I (nI n) b c f (nI q)) J) (q_hn _ _ _ _) rfl ?_
  refine G_callK (i := 4) (as := []) (rest := [.int 0]) rfl rfl (by decide) rfl rfl rfl (Nat.le_of_ble_eq_true rfl) k_len4 x_out_n ?_
  refine G_st (L := 89) (k := 0) (25, [some (.ref 1), some (.float 7), some (.int 0)], [.int 5, .int 0], qS sw gc (x_R I (nI n) b c f (nI q)) J) (q_hn _ _ _ _) rfl ?_
  refine G_icmp_ge 57 rfl rfl (fun h9 => absurd h9 (by decide)) (fun _ => ?_)
  refine G_st (L := 89) (k := 6) (38, [some (.ref 1), some (.float 7), some (.int 0)], [.int ((nI q) + 0), .ref 2], qS sw gc (x_R I (nI n) b c f (nI q)) J) (q_hn _ _ _ _) rfl ?_
  rw [show (nI q) + 0 = nI (q + 0) from (q_addP rfl rfl)]
  refine G_callV (b := 2) (ci := 6) (as := [.int (nI (q + 0))]) (rest := []) rfl rfl rfl (q_lt (by decide)) (by decide) rfl rfl (Nat.le_of_ble_eq_true rfl) (x_byT (l := l) hl hl2 (by omega)) x_out_n ?_
  refine G_st (L := 89) (k := 2) (43, [some (.ref 1), some (.float 7), some (.int 0)], [.int 0, .float 7, .int (x_T I (q + 0))], qS sw gc (x_R I (nI n) b c f (nI q)) J) (q_hn _ _ _ _) rfl ?_
  refine G_callK (i := 4) (as := [.int 0]) (rest := [.int (x_T I (q + 0))]) rfl rfl (by decide) rfl rfl rfl (Nat.le_of_ble_eq_true rfl) k_ch_4_0 x_out_n ?_
  refine G_st (L := 89) (k := 0) (46, [some (.ref 1), some (.float 7), some (.int 0)], [.int 112, .int (x_T I (q + 0))], qS sw gc (x_R I (nI n) b c f (nI q)) J) (q_hn _ _ _ _) rfl ?_
  refine G_icmp_eq 51 rfl rfl (fun h1 => ?_) (fun h1 => ?_)
  · skip
    refine G_st (L := 89) (k := 4) (22, [some (.ref 1), some (.float 7), some (.int 1)], [.float 7, .int 1], qS sw gc (x_R I (nI n) b c f (nI q)) J) (q_hn _ _ _ _) rfl ?_
    refine G_callK (i := 4) (as := []) (rest := [.int 1]) rfl rfl (by decide) rfl rfl rfl (Nat.le_of_ble_eq_true rfl) k_len4 x_out_n ?_
    refine G_st (L := 89) (k := 0) (25, [some (.ref 1), some (.float 7), some (.int 1)], [.int 5, .int 1], qS sw gc (x_R I (nI n) b c f (nI q)) J) (q_hn _ _ _ _) rfl ?_
    refine G_icmp_ge 57 rfl rfl (fun h9 => absurd h9 (by decide)) (fun _ => ?_)
    refine G_st (L := 89) (k := 6) (38, [some (.ref 1), some (.float 7), some (.int 1)], [.int ((nI q) + 1), .ref 2], qS sw gc (x_R I (nI n) b c f (nI q)) J) (q_hn _ _ _ _) rfl ?_
    rw [show (nI q) + 1 = nI (q + 1) from (q_addP rfl rfl)]
    refine G_callV (b := 2) (ci := 6) (as := [.int (nI (q + 1))]) (rest := []) rfl rfl rfl (q_lt (by decide)) (by decide) rfl rfl (Nat.le_of_ble_eq_true rfl) (x_byT (l := l) hl hl2 (by omega)) x_out_n ?_
    refine G_st (L := 89) (k := 2) (43, [some (.ref 1), some (.float 7), some (.int 1)], [.int 1, .float 7, .int (x_T I (q + 1))], qS sw gc (x_R I (nI n) b c f (nI q)) J) (q_hn _ _ _ _) rfl ?_
    refine G_callK (i := 4) (as := [.int 1]) (rest := [.int (x_T I (q + 1))]) rfl rfl (by decide) rfl rfl rfl (Nat.le_of_ble_eq_true rfl) k_ch_4_1 x_out_n ?_
    refine G_st (L := 89) (k := 0) (46, [some (.ref 1), some (.float 7), some (.int 1)], [.int 111, .int (x_T I (q + 1))], qS sw gc (x_R I (nI n) b c f (nI q)) J) (q_hn _ _ _ _) rfl ?_
    refine G_icmp_eq 51 rfl rfl (fun h2 => ?_) (fun h2 => ?_)
    · skip
      refine G_st (L := 89) (k := 4) (22, [some (.ref 1), some (.float 7), some (.int 2)], [.float 7, .int 2], qS sw gc (x_R I (nI n) b c f (nI q)) J) (q_hn _ _ _ _) rfl ?_
      refine G_callK (i := 4) (as := []) (rest := [.int 2]) rfl rfl (by decide) rfl rfl rfl (Nat.le_of_ble_eq_true rfl) k_len4 x_out_n ?_
      refine G_st (L := 89) (k := 0) (25, [some (.ref 1), some (.float 7), some (.int 2)], [.int 5, .int 2], qS sw gc (x_R I (nI n) b c f (nI q)) J) (q_hn _ _ _ _) rfl ?_
      refine G_icmp_ge 57 rfl rfl (fun h9 => absurd h9 (by decide)) (fun _ => ?_)
      refine G_st (L := 89) (k := 6) (38, [some (.ref 1), some (.float 7), some (.int 2)], [.int ((nI q) + 2), .ref 2], qS sw gc (x_R I (nI n) b c f (nI q)) J) (q_hn _ _ _ _) rfl ?_
      rw [show (nI q) + 2 = nI (q + 2) from (q_addP rfl rfl)]
      refine G_callV (b := 2) (ci := 6) (as := [.int (nI (q + 2))]) (rest := []) rfl rfl rfl (q_lt (by decide)) (by decide) rfl rfl (Nat.le_of_ble_eq_true rfl) (x_byT (l := l) hl hl2 (by omega)) x_out_n ?_
      refine G_st (L := 89) (k := 2) (43, [some (.ref 1), some (.float 7), some (.int 2)], [.int 2, .float 7, .int (x_T I (q + 2))], qS sw gc (x_R I (nI n) b c f (nI q)) J) (q_hn _ _ _ _) rfl ?_
      refine G_callK (i := 4) (as := [.int 2]) (rest := [.int (x_T I (q + 2))]) rfl rfl (by decide) rfl rfl rfl (Nat.le_of_ble_eq_true rfl) k_ch_4_2 x_out_n ?_
      refine G_st (L := 89) (k := 0) (46, [some (.ref 1), some (.float 7), some (.int 2)], [.int 117, .int (x_T I (q + 2))], qS sw gc (x_R I (nI n) b c f (nI q)) J) (q_hn _ _ _ _) rfl ?_
      refine G_icmp_eq 51 rfl rfl (fun h3 => ?_) (fun h3 => ?_)
      · skip
        refine G_st (L := 89) (k := 4) (22, [some (.ref 1), some (.float 7), some (.int 3)], [.float 7, .int 3], qS sw gc (x_R I (nI n) b c f (nI q)) J) (q_hn _ _ _ _) rfl ?_
        refine G_callK (i := 4) (as := []) (rest := [.int 3]) rfl rfl (by decide) rfl rfl rfl (Nat.le_of_ble_eq_true rfl) k_len4 x_out_n ?_
        refine G_st (L := 89) (k := 0) (25, [some (.ref 1), some (.float 7), some (.int 3)], [.int 5, .int 3], qS sw gc (x_R I (nI n) b c f (nI q)) J) (q_hn _ _ _ _) rfl ?_
        refine G_icmp_ge 57 rfl rfl (fun h9 => absurd h9 (by decide)) (fun _ => ?_)
        refine G_st (L := 89) (k := 6) (38, [some (.ref 1), some (.float 7), some (.int 3)], [.int ((nI q) + 3), .ref 2], qS sw gc (x_R I (nI n) b c f (nI q)) J) (q_hn _ _ _ _) rfl ?_
        rw [show (nI q) + 3 = nI (q + 3) from (q_addP rfl rfl)]
        refine G_callV (b := 2) (ci := 6) (as := [.int (nI (q + 3))]) (rest := []) rfl rfl rfl (q_lt (by decide)) (by decide) rfl rfl (Nat.le_of_ble_eq_true rfl) (x_byT (l := l) hl hl2 (by omega)) x_out_n ?_
        refine G_st (L := 89) (k := 2) (43, [some (.ref 1), some (.float 7), some (.int 3)], [.int 3, .float 7, .int (x_T I (q + 3))], qS sw gc (x_R I (nI n) b c f (nI q)) J) (q_hn _ _ _ _) rfl ?_
        refine G_callK (i := 4) (as := [.int 3]) (rest := [.int (x_T I (q + 3))]) rfl rfl (by decide) rfl rfl rfl (Nat.le_of_ble_eq_true rfl) k_ch_4_3 x_out_n ?_
        refine G_st (L := 89) (k := 0) (46, [some (.ref 1), some (.float 7), some (.int 3)], [.int 110, .int (x_T I (q + 3))], qS sw gc (x_R I (nI n) b c f (nI q)) J) (q_hn _ _ _ _) rfl ?_
        refine G_icmp_eq 51 rfl rfl (fun h4 => ?_) (fun h4 => ?_)
        · skip
          refine G_st (L := 89) (k := 4) (22, [some (.ref 1), some (.float 7), some (.int 4)], [.float 7, .int 4], qS sw gc (x_R I (nI n) b c f (nI q)) J) (q_hn _ _ _ _) rfl ?_
          refine G_callK (i := 4) (as := []) (rest := [.int 4]) rfl rfl (by decide) rfl rfl rfl (Nat.le_of_ble_eq_true rfl) k_len4 x_out_n ?_
          refine G_st (L := 89) (k := 0) (25, [some (.ref 1), some (.float 7), some (.int 4)], [.int 5, .int 4], qS sw gc (x_R I (nI n) b c f (nI q)) J) (q_hn _ _ _ _) rfl ?_
          refine G_icmp_ge 57 rfl rfl (fun h9 => absurd h9 (by decide)) (fun _ => ?_)
          refine G_st (L := 89) (k := 6) (38, [some (.ref 1), some (.float 7), some (.int 4)], [.int ((nI q) + 4), .ref 2], qS sw gc (x_R I (nI n) b c f (nI q)) J) (q_hn _ _ _ _) rfl ?_
          rw [show (nI q) + 4 = nI (q + 4) from (q_addP rfl rfl)]
          refine G_callV (b := 2) (ci := 6) (as := [.int (nI (q + 4))]) (rest := []) rfl rfl rfl (q_lt (by decide)) (by decide) rfl rfl (Nat.le_of_ble_eq_true rfl) (x_byT (l := l) hl hl2 (by omega)) x_out_n ?_
          refine G_st (L := 89) (k := 2) (43, [some (.ref 1), some (.float 7), some (.int 4)], [.int 4, .float 7, .int (x_T I (q + 4))], qS sw gc (x_R I (nI n) b c f (nI q)) J) (q_hn _ _ _ _) rfl ?_
          refine G_callK (i := 4) (as := [.int 4]) (rest := [.int (x_T I (q + 4))]) rfl rfl (by decide) rfl rfl rfl (Nat.le_of_ble_eq_true rfl) k_ch_4_4 x_out_n ?_
          refine G_st (L := 89) (k := 0) (46, [some (.ref 1), some (.float 7), some (.int 4)], [.int 100, .int (x_T I (q + 4))], qS sw gc (x_R I (nI n) b c f (nI q)) J) (q_hn _ _ _ _) rfl ?_
          refine G_icmp_eq 51 rfl rfl (fun h5 => ?_) (fun h5 => ?_)
          · skip
            refine G_st (L := 89) (k := 4) (22, [some (.ref 1), some (.float 7), some (.int 5)], [.float 7, .int 5], qS sw gc (x_R I (nI n) b c f (nI q)) J) (q_hn _ _ _ _) rfl ?_
            refine G_callK (i := 4) (as := []) (rest := [.int 5]) rfl rfl (by decide) rfl rfl rfl (Nat.le_of_ble_eq_true rfl) k_len4 x_out_n ?_
            refine G_st (L := 89) (k := 0) (25, [some (.ref 1), some (.float 7), some (.int 5)], [.int 5, .int 5], qS sw gc (x_R I (nI n) b c f (nI q)) J) (q_hn _ _ _ _) rfl ?_
            refine G_icmp_ge 57 rfl rfl (fun _ => ?_) (fun h9 => absurd h9 (by decide))
            refine G_st (L := 89) (k := 1) (58, [some (.ref 1), some (.float 7), some (.int 5)], [.int 1], qS sw gc (x_R I (nI n) b c f (nI q)) J) (q_hn _ _ _ _) rfl ?_
            exact G_iret rfl rfl (by unfold t_nm4; rw [show Nat.beq (n - q) 5 = true by rw [hlen]; rfl, decide_eq_true h1, decide_eq_true h2, decide_eq_true h3, decide_eq_true h4, decide_eq_true h5]; rfl) rfl
          · skip
            refine G_st (L := 89) (k := 1) (50, [some (.ref 1), some (.float 7), some (.int 4)], [.int 0], qS sw gc (x_R I (nI n) b c f (nI q)) J) (q_hn _ _ _ _) rfl ?_
            exact G_iret rfl rfl (by unfold t_nm4; rw [show Nat.beq (n - q) 5 = true by rw [hlen]; rfl, decide_eq_true h1, decide_eq_true h2, decide_eq_true h3, decide_eq_true h4, decide_eq_false h5]; rfl) rfl
        · skip
          refine G_st (L := 89) (k := 1) (50, [some (.ref 1), some (.float 7), some (.int 3)], [.int 0], qS sw gc (x_R I (nI n) b c f (nI q)) J) (q_hn _ _ _ _) rfl ?_
          exact G_iret rfl rfl (by unfold t_nm4; rw [show Nat.beq (n - q) 5 = true by rw [hlen]; rfl, decide_eq_true h1, decide_eq_true h2, decide_eq_true h3, decide_eq_false h4]; rfl) rfl
      · skip
        refine G_st (L := 89) (k := 1) (50, [some (.ref 1), some (.float 7), some (.int 2)], [.int 0], qS sw gc (x_R I (nI n) b c f (nI q)) J) (q_hn _ _ _ _) rfl ?_
        exact G_iret rfl rfl (by unfold t_nm4; rw [show Nat.beq (n - q) 5 = true by rw [hlen]; rfl, decide_eq_true h1, decide_eq_true h2, decide_eq_false h3]; rfl) rfl
    · skip
      refine G_st (L := 89) (k := 1) (50, [some (.ref 1), some (.float 7), some (.int 1)], [.int 0], qS sw gc (x_R I (nI n) b c f (nI q)) J) (q_hn _ _ _ _) rfl ?_
      exact G_iret rfl rfl (by unfold t_nm4; rw [show Nat.beq (n - q) 5 = true by rw [hlen]; rfl, decide_eq_true h1, decide_eq_false h2]; rfl) rfl
  · skip
    refine G_st (L := 89) (k := 1) (50, [some (.ref 1), some (.float 7), some (.int 0)], [.int 0], qS sw gc (x_R I (nI n) b c f (nI q)) J) (q_hn _ _ _ _) rfl ?_
    exact G_iret rfl rfl (by unfold t_nm4; rw [show Nat.beq (n - q) 5 = true by rw [hlen]; rfl, decide_eq_false h1]; rfl) rfl
theorem x_itnN4 {d : Nat} {sw : Bool} {gc : Nat} {I : Nat → Nat → Int32} {J : Nat → Nat → Int64} {l : Nat} (hl : I 2 1 = nI l) (hl2 : l ≤ 200) {q n : Nat} (hq : q ≤ n) (hn : n ≤ 900) {b c f : Int32} (hlen : ¬ n - q = 5) : GM (d + 4) 37 [.ref 1, .float 7] (qS sw gc (x_R I (nI n) b c f (nI q)) J) (some (.int 0)) (qS sw gc (x_R I (nI n) b c f (nI q)) J) := by
  refine GM_of (by decide) x_out_n (Nat.le_of_ble_eq_true rfl) rfl ?_
  refine G_st (L := 89) (k := 0) (0, [some (.ref 1), some (.float 7), none], [], qS sw gc (x_R I (nI n) b c f (nI q)) J) (q_hn _ _ _ _) rfl ?_
  refine G_st (L := 89) (k := 6) (10, [some (.ref 1), some (.float 7), none], [.float 7, .int ((nI n) - (nI q))], qS sw gc (x_R I (nI n) b c f (nI q)) J) (q_hn _ _ _ _) rfl ?_
  rw [show (nI n) - (nI q) = nI (n - q) from (q_subP rfl rfl (by omega))]
  refine G_callK (i := 4) (as := []) (rest := [.int (nI (n - q))]) rfl rfl (by decide) rfl rfl rfl (Nat.le_of_ble_eq_true rfl) k_len4 x_out_n ?_
  refine G_st (L := 89) (k := 0) (13, [some (.ref 1), some (.float 7), none], [.int 5, .int (nI (n - q))], qS sw gc (x_R I (nI n) b c f (nI q)) J) (q_hn _ _ _ _) rfl ?_
  refine G_icmp_eq 18 rfl rfl (fun h9 => absurd h9 (fun e9 => absurd ((nI_eq (b := 5) (by omega) (by decide)).mp e9) hlen)) (fun _ => ?_)
  refine G_st (L := 89) (k := 1) (17, [some (.ref 1), some (.float 7), none], [.int 0], qS sw gc (x_R I (nI n) b c f (nI q)) J) (q_hn _ _ _ _) rfl ?_
  exact G_iret rfl rfl rfl rfl
theorem x_isTakenName4 {d : Nat} {sw : Bool} {gc : Nat} {I : Nat → Nat → Int32} {J : Nat → Nat → Int64} {l : Nat} (hl : I 2 1 = nI l) (hl2 : l ≤ 200) {q n : Nat} (hq : q ≤ n) (hn : n ≤ 900) {b c f : Int32} : GM (d + 4) 37 [.ref 1, .float 7] (qS sw gc (x_R I (nI n) b c f (nI q)) J) (some (.int (q_b (t_nm4 (x_T I) q n)))) (qS sw gc (x_R I (nI n) b c f (nI q)) J) := by
  by_cases h : n - q = 5
  · exact x_itnP4 hl hl2 hq hn h
  · have e : t_nm4 (x_T I) q n = false := by
      unfold t_nm4
      have : Nat.beq (n - q) 5 = false := by
        cases hb : Nat.beq (n - q) 5 with
        | true => exact absurd (Nat.eq_of_beq_eq_true hb) h
        | false => rfl
      rw [this]; rfl
    rw [e]
    exact x_itnN4 hl hl2 hq hn h
theorem x_nameOf0 {d : Nat} {M : qM} : GM d 19 [.int 0] (M) (some (.float 3)) (M) := by
  refine GM_of (by decide) (Nat.le_refl _) (Nat.le_of_ble_eq_true rfl) rfl ?_
  refine G_st (L := 0) (k := 0) (0, [some (.int 0)], [], M) (Nat.zero_le _) rfl ?_
  refine G_st (L := 0) (k := 1) (1, [some (.int 0)], [.int 0], M) (Nat.zero_le _) rfl ?_
  refine G_tsIn (off := 31) 32 rfl (by decide) (by decide) rfl rfl ?_
  refine G_st (L := 0) (k := 0) (32, [some (.int 0)], [], M) (Nat.zero_le _) rfl ?_
  refine G_ldcS (i := 0) (x := 3) (tx := "top") rfl rfl (by decide) rfl ?_
  refine G_st (L := 0) (k := 0) (34, [some (.int 0)], [.float 3], M) (Nat.zero_le _) rfl ?_
  exact G_aret rfl rfl rfl rfl
theorem x_nameOf1 {d : Nat} {M : qM} : GM d 19 [.int 1] (M) (some (.float 4)) (M) := by
  refine GM_of (by decide) (Nat.le_refl _) (Nat.le_of_ble_eq_true rfl) rfl ?_
  refine G_st (L := 0) (k := 0) (0, [some (.int 1)], [], M) (Nat.zero_le _) rfl ?_
  refine G_st (L := 0) (k := 1) (1, [some (.int 1)], [.int 1], M) (Nat.zero_le _) rfl ?_
  refine G_tsIn (off := 34) 35 rfl (by decide) (by decide) rfl rfl ?_
  refine G_st (L := 0) (k := 0) (35, [some (.int 1)], [], M) (Nat.zero_le _) rfl ?_
  refine G_ldcS (i := 1) (x := 4) (tx := "hang") rfl rfl (by decide) rfl ?_
  refine G_st (L := 0) (k := 0) (37, [some (.int 1)], [.float 4], M) (Nat.zero_le _) rfl ?_
  exact G_aret rfl rfl rfl rfl
theorem x_nameOf2 {d : Nat} {M : qM} : GM d 19 [.int 2] (M) (some (.float 5)) (M) := by
  refine GM_of (by decide) (Nat.le_refl _) (Nat.le_of_ble_eq_true rfl) rfl ?_
  refine G_st (L := 0) (k := 0) (0, [some (.int 2)], [], M) (Nat.zero_le _) rfl ?_
  refine G_st (L := 0) (k := 1) (1, [some (.int 2)], [.int 2], M) (Nat.zero_le _) rfl ?_
  refine G_tsIn (off := 37) 38 rfl (by decide) (by decide) rfl rfl ?_
  refine G_st (L := 0) (k := 0) (38, [some (.int 2)], [], M) (Nat.zero_le _) rfl ?_
  refine G_ldcS (i := 2) (x := 5) (tx := "tool") rfl rfl (by decide) rfl ?_
  refine G_st (L := 0) (k := 0) (40, [some (.int 2)], [.float 5], M) (Nat.zero_le _) rfl ?_
  exact G_aret rfl rfl rfl rfl
theorem x_nameOf3 {d : Nat} {M : qM} : GM d 19 [.int 3] (M) (some (.float 6)) (M) := by
  refine GM_of (by decide) (Nat.le_refl _) (Nat.le_of_ble_eq_true rfl) rfl ?_
  refine G_st (L := 0) (k := 0) (0, [some (.int 3)], [], M) (Nat.zero_le _) rfl ?_
  refine G_st (L := 0) (k := 1) (1, [some (.int 3)], [.int 3], M) (Nat.zero_le _) rfl ?_
  refine G_tsIn (off := 40) 41 rfl (by decide) (by decide) rfl rfl ?_
  refine G_st (L := 0) (k := 0) (41, [some (.int 3)], [], M) (Nat.zero_le _) rfl ?_
  refine G_ldcS (i := 3) (x := 6) (tx := "club") rfl rfl (by decide) rfl ?_
  refine G_st (L := 0) (k := 0) (43, [some (.int 3)], [.float 6], M) (Nat.zero_le _) rfl ?_
  exact G_aret rfl rfl rfl rfl
theorem x_nameOf4 {d : Nat} {M : qM} : GM d 19 [.int 4] (M) (some (.float 7)) (M) := by
  refine GM_of (by decide) (Nat.le_refl _) (Nat.le_of_ble_eq_true rfl) rfl ?_
  refine G_st (L := 0) (k := 0) (0, [some (.int 4)], [], M) (Nat.zero_le _) rfl ?_
  refine G_st (L := 0) (k := 1) (1, [some (.int 4)], [.int 4], M) (Nat.zero_le _) rfl ?_
  refine G_tsOut 44 rfl (Or.inr (by decide)) rfl ?_
  refine G_st (L := 0) (k := 0) (44, [some (.int 4)], [], M) (Nat.zero_le _) rfl ?_
  refine G_ldcS (i := 4) (x := 7) (tx := "pound") rfl rfl (by decide) rfl ?_
  refine G_st (L := 0) (k := 0) (46, [some (.int 4)], [.float 7], M) (Nat.zero_le _) rfl ?_
  exact G_aret rfl rfl rfl rfl
def t_w5 (t : Nat → Int32) (q n : Nat) (v : Int32) : Int32 := v
def t_w4 (t : Nat → Int32) (q n : Nat) (v : Int32) : Int32 := t_w5 t q n (cond (t_nm4 t q n) 4 v)
def t_w3 (t : Nat → Int32) (q n : Nat) (v : Int32) : Int32 := t_w4 t q n (cond (t_nm3 t q n) 3 v)
def t_w2 (t : Nat → Int32) (q n : Nat) (v : Int32) : Int32 := t_w3 t q n (cond (t_nm2 t q n) 2 v)
def t_w1 (t : Nat → Int32) (q n : Nat) (v : Int32) : Int32 := t_w2 t q n (cond (t_nm1 t q n) 1 v)
def t_w0 (t : Nat → Int32) (q n : Nat) (v : Int32) : Int32 := t_w1 t q n (cond (t_nm0 t q n) 0 v)
theorem x_tnm5 {d : Nat} {sw : Bool} {gc : Nat} {I : Nat → Nat → Int32} {J : Nat → Nat → Int64} {l : Nat} (hl : I 2 1 = nI l) (hl2 : l ≤ 200) {q n : Nat} (hq : q ≤ n) (hn : n ≤ 900) {v : Int32} : G (d + 5) 36 (55, [some (.ref 1), some (.int 5)], [], qS sw gc (x_R I (nI n) 1 v 0 (nI q)) J) none (qS sw gc (x_R I (nI n) 1 v (q_b (decide (v = (-4)))) (nI q)) J) := by
  by_cases h4 : v = (-4)
  · rw [decide_eq_true h4]
    refine G_st (L := 89) (k := 2) (57, [some (.ref 1), some (.int 5)], [.int 4, .int 5], qS sw gc (x_R I (nI n) 1 v 0 (nI q)) J) (q_hn _ _ _ _) rfl ?_
    refine G_icmp_gt 82 rfl rfl (fun _ => ?_) (fun h9 => absurd h9 (by decide))
    refine G_st (L := 89) (k := 4) (89, [some (.ref 1), some (.int 5)], [.int (-4), .int v, .ref 1], qS sw gc (x_R I (nI n) 1 v 0 (nI q)) J) (q_hn _ _ _ _) rfl ?_
    refine G_icmp_eq 96 rfl rfl (fun _ => ?_) (fun h9 => absurd h4 h9)
    refine G_st (L := 89) (k := 2) (98, [some (.ref 1), some (.int 5)], [.int 1, .int 0, .ref 1], qS sw gc (x_R I (nI n) 1 v 0 (nI q)) J) (q_hn _ _ _ _) rfl ?_
    refine G_callV (b := 1) (ci := 3) (as := [.int 0, .int 1]) (rest := []) rfl rfl rfl (q_lt (by decide)) (by decide) rfl rfl (Nat.le_of_ble_eq_true rfl) x_req0 x_out_n ?_
    refine G_st (L := 89) (k := 0) (101, [some (.ref 1), some (.int 5)], [], qS sw gc (x_R I (nI n) 1 v 1 (nI q)) J) (q_hn _ _ _ _) rfl ?_
    exact G_ret rfl rfl rfl rfl
  · rw [decide_eq_false h4]
    refine G_st (L := 89) (k := 2) (57, [some (.ref 1), some (.int 5)], [.int 4, .int 5], qS sw gc (x_R I (nI n) 1 v 0 (nI q)) J) (q_hn _ _ _ _) rfl ?_
    refine G_icmp_gt 82 rfl rfl (fun _ => ?_) (fun h9 => absurd h9 (by decide))
    refine G_st (L := 89) (k := 4) (89, [some (.ref 1), some (.int 5)], [.int (-4), .int v, .ref 1], qS sw gc (x_R I (nI n) 1 v 0 (nI q)) J) (q_hn _ _ _ _) rfl ?_
    refine G_icmp_eq 96 rfl rfl (fun h9 => absurd h9 h4) (fun _ => ?_)
    refine G_st (L := 89) (k := 3) (98, [some (.ref 1), some (.int 5)], [.int 1, .int 1, .ref 1], qS sw gc (x_R I (nI n) 1 v 0 (nI q)) J) (q_hn _ _ _ _) rfl ?_
    refine G_callV (b := 1) (ci := 3) (as := [.int 1, .int 1]) (rest := []) rfl rfl rfl (q_lt (by decide)) (by decide) rfl rfl (Nat.le_of_ble_eq_true rfl) x_req1 x_out_n ?_
    refine G_st (L := 89) (k := 0) (101, [some (.ref 1), some (.int 5)], [], qS sw gc (x_R I (nI n) 1 v 0 (nI q)) J) (q_hn _ _ _ _) rfl ?_
    exact G_ret rfl rfl rfl rfl
theorem x_tnm4 {d : Nat} {sw : Bool} {gc : Nat} {I : Nat → Nat → Int32} {J : Nat → Nat → Int64} {l : Nat} (hl : I 2 1 = nI l) (hl2 : l ≤ 200) {q n : Nat} (hq : q ≤ n) (hn : n ≤ 900) {v : Int32} : G (d + 5) 36 (55, [some (.ref 1), some (.int 4)], [], qS sw gc (x_R I (nI n) 1 v 0 (nI q)) J) none (qS sw gc (x_R I (nI n) 1 (t_w4 (x_T I) q n v) (q_b (decide (t_w4 (x_T I) q n v = (-4)))) (nI q)) J) := by
  cases hb : t_nm4 (x_T I) q n with
  | false =>
    rw [show t_w4 (x_T I) q n v = t_w5 (x_T I) q n v by rw [t_w4, hb]; rfl]
    refine G_st (L := 89) (k := 2) (57, [some (.ref 1), some (.int 4)], [.int 4, .int 4], qS sw gc (x_R I (nI n) 1 v 0 (nI q)) J) (q_hn _ _ _ _) rfl ?_
    refine G_icmp_gt 82 rfl rfl (fun h9 => absurd h9 (by decide)) (fun _ => ?_)
    refine G_st (L := 89) (k := 2) (62, [some (.ref 1), some (.int 4)], [.int 4, .ref 1], qS sw gc (x_R I (nI n) 1 v 0 (nI q)) J) (q_hn _ _ _ _) rfl ?_
    refine G_callS (as := [.int 4]) (rest := [.ref 1]) rfl rfl rfl (Nat.le_of_ble_eq_true rfl) x_nameOf4 x_out_n ?_
    refine G_st (L := 89) (k := 0) (65, [some (.ref 1), some (.int 4)], [.float 7, .ref 1], qS sw gc (x_R I (nI n) 1 v 0 (nI q)) J) (q_hn _ _ _ _) rfl ?_
    refine G_callV (b := 1) (ci := 3) (as := [.float 7]) (rest := []) rfl rfl rfl (q_lt (by decide)) (by decide) rfl rfl (Nat.le_of_ble_eq_true rfl) (GM_r (x_isTakenName4 hl hl2 hq hn) (congrArg q_b hb)) x_out_n ?_
    refine G_st (L := 89) (k := 0) (68, [some (.ref 1), some (.int 4)], [.int 0], qS sw gc (x_R I (nI n) 1 v 0 (nI q)) J) (q_hn _ _ _ _) rfl ?_
    refine G_if_eq 76 rfl rfl (fun _ => ?_) (fun h9 => absurd h9 (by decide))
    refine G_st (L := 89) (k := 2) (55, [some (.ref 1), some (.int 5)], [], qS sw gc (x_R I (nI n) 1 v 0 (nI q)) J) (q_hn _ _ _ _) rfl ?_
    exact x_tnm5 hl hl2 hq hn
  | true =>
    rw [show t_w4 (x_T I) q n v = t_w5 (x_T I) q n 4 by rw [t_w4, hb]; rfl]
    refine G_st (L := 89) (k := 2) (57, [some (.ref 1), some (.int 4)], [.int 4, .int 4], qS sw gc (x_R I (nI n) 1 v 0 (nI q)) J) (q_hn _ _ _ _) rfl ?_
    refine G_icmp_gt 82 rfl rfl (fun h9 => absurd h9 (by decide)) (fun _ => ?_)
    refine G_st (L := 89) (k := 2) (62, [some (.ref 1), some (.int 4)], [.int 4, .ref 1], qS sw gc (x_R I (nI n) 1 v 0 (nI q)) J) (q_hn _ _ _ _) rfl ?_
    refine G_callS (as := [.int 4]) (rest := [.ref 1]) rfl rfl rfl (Nat.le_of_ble_eq_true rfl) x_nameOf4 x_out_n ?_
    refine G_st (L := 89) (k := 0) (65, [some (.ref 1), some (.int 4)], [.float 7, .ref 1], qS sw gc (x_R I (nI n) 1 v 0 (nI q)) J) (q_hn _ _ _ _) rfl ?_
    refine G_callV (b := 1) (ci := 3) (as := [.float 7]) (rest := []) rfl rfl rfl (q_lt (by decide)) (by decide) rfl rfl (Nat.le_of_ble_eq_true rfl) (GM_r (x_isTakenName4 hl hl2 hq hn) (congrArg q_b hb)) x_out_n ?_
    refine G_st (L := 89) (k := 0) (68, [some (.ref 1), some (.int 4)], [.int 1], qS sw gc (x_R I (nI n) 1 v 0 (nI q)) J) (q_hn _ _ _ _) rfl ?_
    refine G_if_eq 76 rfl rfl (fun h9 => absurd h9 (by decide)) (fun _ => ?_)
    refine G_st (L := 89) (k := 5) (55, [some (.ref 1), some (.int 5)], [], qS sw gc (q_u (x_R I (nI n) 1 v 0 (nI q)) 1 3 4) J) (q_hn _ _ _ _) rfl ?_
    rw [x_R3]
    exact x_tnm5 hl hl2 hq hn
theorem x_tnm3 {d : Nat} {sw : Bool} {gc : Nat} {I : Nat → Nat → Int32} {J : Nat → Nat → Int64} {l : Nat} (hl : I 2 1 = nI l) (hl2 : l ≤ 200) {q n : Nat} (hq : q ≤ n) (hn : n ≤ 900) {v : Int32} : G (d + 5) 36 (55, [some (.ref 1), some (.int 3)], [], qS sw gc (x_R I (nI n) 1 v 0 (nI q)) J) none (qS sw gc (x_R I (nI n) 1 (t_w3 (x_T I) q n v) (q_b (decide (t_w3 (x_T I) q n v = (-4)))) (nI q)) J) := by
  cases hb : t_nm3 (x_T I) q n with
  | false =>
    rw [show t_w3 (x_T I) q n v = t_w4 (x_T I) q n v by rw [t_w3, hb]; rfl]
    refine G_st (L := 89) (k := 2) (57, [some (.ref 1), some (.int 3)], [.int 4, .int 3], qS sw gc (x_R I (nI n) 1 v 0 (nI q)) J) (q_hn _ _ _ _) rfl ?_
    refine G_icmp_gt 82 rfl rfl (fun h9 => absurd h9 (by decide)) (fun _ => ?_)
    refine G_st (L := 89) (k := 2) (62, [some (.ref 1), some (.int 3)], [.int 3, .ref 1], qS sw gc (x_R I (nI n) 1 v 0 (nI q)) J) (q_hn _ _ _ _) rfl ?_
    refine G_callS (as := [.int 3]) (rest := [.ref 1]) rfl rfl rfl (Nat.le_of_ble_eq_true rfl) x_nameOf3 x_out_n ?_
    refine G_st (L := 89) (k := 0) (65, [some (.ref 1), some (.int 3)], [.float 6, .ref 1], qS sw gc (x_R I (nI n) 1 v 0 (nI q)) J) (q_hn _ _ _ _) rfl ?_
    refine G_callV (b := 1) (ci := 3) (as := [.float 6]) (rest := []) rfl rfl rfl (q_lt (by decide)) (by decide) rfl rfl (Nat.le_of_ble_eq_true rfl) (GM_r (x_isTakenName3 hl hl2 hq hn) (congrArg q_b hb)) x_out_n ?_
    refine G_st (L := 89) (k := 0) (68, [some (.ref 1), some (.int 3)], [.int 0], qS sw gc (x_R I (nI n) 1 v 0 (nI q)) J) (q_hn _ _ _ _) rfl ?_
    refine G_if_eq 76 rfl rfl (fun _ => ?_) (fun h9 => absurd h9 (by decide))
    refine G_st (L := 89) (k := 2) (55, [some (.ref 1), some (.int 4)], [], qS sw gc (x_R I (nI n) 1 v 0 (nI q)) J) (q_hn _ _ _ _) rfl ?_
    exact x_tnm4 hl hl2 hq hn
  | true =>
    rw [show t_w3 (x_T I) q n v = t_w4 (x_T I) q n 3 by rw [t_w3, hb]; rfl]
    refine G_st (L := 89) (k := 2) (57, [some (.ref 1), some (.int 3)], [.int 4, .int 3], qS sw gc (x_R I (nI n) 1 v 0 (nI q)) J) (q_hn _ _ _ _) rfl ?_
    refine G_icmp_gt 82 rfl rfl (fun h9 => absurd h9 (by decide)) (fun _ => ?_)
    refine G_st (L := 89) (k := 2) (62, [some (.ref 1), some (.int 3)], [.int 3, .ref 1], qS sw gc (x_R I (nI n) 1 v 0 (nI q)) J) (q_hn _ _ _ _) rfl ?_
    refine G_callS (as := [.int 3]) (rest := [.ref 1]) rfl rfl rfl (Nat.le_of_ble_eq_true rfl) x_nameOf3 x_out_n ?_
    refine G_st (L := 89) (k := 0) (65, [some (.ref 1), some (.int 3)], [.float 6, .ref 1], qS sw gc (x_R I (nI n) 1 v 0 (nI q)) J) (q_hn _ _ _ _) rfl ?_
    refine G_callV (b := 1) (ci := 3) (as := [.float 6]) (rest := []) rfl rfl rfl (q_lt (by decide)) (by decide) rfl rfl (Nat.le_of_ble_eq_true rfl) (GM_r (x_isTakenName3 hl hl2 hq hn) (congrArg q_b hb)) x_out_n ?_
    refine G_st (L := 89) (k := 0) (68, [some (.ref 1), some (.int 3)], [.int 1], qS sw gc (x_R I (nI n) 1 v 0 (nI q)) J) (q_hn _ _ _ _) rfl ?_
    refine G_if_eq 76 rfl rfl (fun h9 => absurd h9 (by decide)) (fun _ => ?_)
    refine G_st (L := 89) (k := 5) (55, [some (.ref 1), some (.int 4)], [], qS sw gc (q_u (x_R I (nI n) 1 v 0 (nI q)) 1 3 3) J) (q_hn _ _ _ _) rfl ?_
    rw [x_R3]
    exact x_tnm4 hl hl2 hq hn
theorem x_tnm2 {d : Nat} {sw : Bool} {gc : Nat} {I : Nat → Nat → Int32} {J : Nat → Nat → Int64} {l : Nat} (hl : I 2 1 = nI l) (hl2 : l ≤ 200) {q n : Nat} (hq : q ≤ n) (hn : n ≤ 900) {v : Int32} : G (d + 5) 36 (55, [some (.ref 1), some (.int 2)], [], qS sw gc (x_R I (nI n) 1 v 0 (nI q)) J) none (qS sw gc (x_R I (nI n) 1 (t_w2 (x_T I) q n v) (q_b (decide (t_w2 (x_T I) q n v = (-4)))) (nI q)) J) := by
  cases hb : t_nm2 (x_T I) q n with
  | false =>
    rw [show t_w2 (x_T I) q n v = t_w3 (x_T I) q n v by rw [t_w2, hb]; rfl]
    refine G_st (L := 89) (k := 2) (57, [some (.ref 1), some (.int 2)], [.int 4, .int 2], qS sw gc (x_R I (nI n) 1 v 0 (nI q)) J) (q_hn _ _ _ _) rfl ?_
    refine G_icmp_gt 82 rfl rfl (fun h9 => absurd h9 (by decide)) (fun _ => ?_)
    refine G_st (L := 89) (k := 2) (62, [some (.ref 1), some (.int 2)], [.int 2, .ref 1], qS sw gc (x_R I (nI n) 1 v 0 (nI q)) J) (q_hn _ _ _ _) rfl ?_
    refine G_callS (as := [.int 2]) (rest := [.ref 1]) rfl rfl rfl (Nat.le_of_ble_eq_true rfl) x_nameOf2 x_out_n ?_
    refine G_st (L := 89) (k := 0) (65, [some (.ref 1), some (.int 2)], [.float 5, .ref 1], qS sw gc (x_R I (nI n) 1 v 0 (nI q)) J) (q_hn _ _ _ _) rfl ?_
    refine G_callV (b := 1) (ci := 3) (as := [.float 5]) (rest := []) rfl rfl rfl (q_lt (by decide)) (by decide) rfl rfl (Nat.le_of_ble_eq_true rfl) (GM_r (x_isTakenName2 hl hl2 hq hn) (congrArg q_b hb)) x_out_n ?_
    refine G_st (L := 89) (k := 0) (68, [some (.ref 1), some (.int 2)], [.int 0], qS sw gc (x_R I (nI n) 1 v 0 (nI q)) J) (q_hn _ _ _ _) rfl ?_
    refine G_if_eq 76 rfl rfl (fun _ => ?_) (fun h9 => absurd h9 (by decide))
    refine G_st (L := 89) (k := 2) (55, [some (.ref 1), some (.int 3)], [], qS sw gc (x_R I (nI n) 1 v 0 (nI q)) J) (q_hn _ _ _ _) rfl ?_
    exact x_tnm3 hl hl2 hq hn
  | true =>
    rw [show t_w2 (x_T I) q n v = t_w3 (x_T I) q n 2 by rw [t_w2, hb]; rfl]
    refine G_st (L := 89) (k := 2) (57, [some (.ref 1), some (.int 2)], [.int 4, .int 2], qS sw gc (x_R I (nI n) 1 v 0 (nI q)) J) (q_hn _ _ _ _) rfl ?_
    refine G_icmp_gt 82 rfl rfl (fun h9 => absurd h9 (by decide)) (fun _ => ?_)
    refine G_st (L := 89) (k := 2) (62, [some (.ref 1), some (.int 2)], [.int 2, .ref 1], qS sw gc (x_R I (nI n) 1 v 0 (nI q)) J) (q_hn _ _ _ _) rfl ?_
    refine G_callS (as := [.int 2]) (rest := [.ref 1]) rfl rfl rfl (Nat.le_of_ble_eq_true rfl) x_nameOf2 x_out_n ?_
    refine G_st (L := 89) (k := 0) (65, [some (.ref 1), some (.int 2)], [.float 5, .ref 1], qS sw gc (x_R I (nI n) 1 v 0 (nI q)) J) (q_hn _ _ _ _) rfl ?_
    refine G_callV (b := 1) (ci := 3) (as := [.float 5]) (rest := []) rfl rfl rfl (q_lt (by decide)) (by decide) rfl rfl (Nat.le_of_ble_eq_true rfl) (GM_r (x_isTakenName2 hl hl2 hq hn) (congrArg q_b hb)) x_out_n ?_
    refine G_st (L := 89) (k := 0) (68, [some (.ref 1), some (.int 2)], [.int 1], qS sw gc (x_R I (nI n) 1 v 0 (nI q)) J) (q_hn _ _ _ _) rfl ?_
    refine G_if_eq 76 rfl rfl (fun h9 => absurd h9 (by decide)) (fun _ => ?_)
    refine G_st (L := 89) (k := 5) (55, [some (.ref 1), some (.int 3)], [], qS sw gc (q_u (x_R I (nI n) 1 v 0 (nI q)) 1 3 2) J) (q_hn _ _ _ _) rfl ?_
    rw [x_R3]
    exact x_tnm3 hl hl2 hq hn
theorem x_tnm1 {d : Nat} {sw : Bool} {gc : Nat} {I : Nat → Nat → Int32} {J : Nat → Nat → Int64} {l : Nat} (hl : I 2 1 = nI l) (hl2 : l ≤ 200) {q n : Nat} (hq : q ≤ n) (hn : n ≤ 900) {v : Int32} : G (d + 5) 36 (55, [some (.ref 1), some (.int 1)], [], qS sw gc (x_R I (nI n) 1 v 0 (nI q)) J) none (qS sw gc (x_R I (nI n) 1 (t_w1 (x_T I) q n v) (q_b (decide (t_w1 (x_T I) q n v = (-4)))) (nI q)) J) := by
  cases hb : t_nm1 (x_T I) q n with
  | false =>
    rw [show t_w1 (x_T I) q n v = t_w2 (x_T I) q n v by rw [t_w1, hb]; rfl]
    refine G_st (L := 89) (k := 2) (57, [some (.ref 1), some (.int 1)], [.int 4, .int 1], qS sw gc (x_R I (nI n) 1 v 0 (nI q)) J) (q_hn _ _ _ _) rfl ?_
    refine G_icmp_gt 82 rfl rfl (fun h9 => absurd h9 (by decide)) (fun _ => ?_)
    refine G_st (L := 89) (k := 2) (62, [some (.ref 1), some (.int 1)], [.int 1, .ref 1], qS sw gc (x_R I (nI n) 1 v 0 (nI q)) J) (q_hn _ _ _ _) rfl ?_
    refine G_callS (as := [.int 1]) (rest := [.ref 1]) rfl rfl rfl (Nat.le_of_ble_eq_true rfl) x_nameOf1 x_out_n ?_
    refine G_st (L := 89) (k := 0) (65, [some (.ref 1), some (.int 1)], [.float 4, .ref 1], qS sw gc (x_R I (nI n) 1 v 0 (nI q)) J) (q_hn _ _ _ _) rfl ?_
    refine G_callV (b := 1) (ci := 3) (as := [.float 4]) (rest := []) rfl rfl rfl (q_lt (by decide)) (by decide) rfl rfl (Nat.le_of_ble_eq_true rfl) (GM_r (x_isTakenName1 hl hl2 hq hn) (congrArg q_b hb)) x_out_n ?_
    refine G_st (L := 89) (k := 0) (68, [some (.ref 1), some (.int 1)], [.int 0], qS sw gc (x_R I (nI n) 1 v 0 (nI q)) J) (q_hn _ _ _ _) rfl ?_
    refine G_if_eq 76 rfl rfl (fun _ => ?_) (fun h9 => absurd h9 (by decide))
    refine G_st (L := 89) (k := 2) (55, [some (.ref 1), some (.int 2)], [], qS sw gc (x_R I (nI n) 1 v 0 (nI q)) J) (q_hn _ _ _ _) rfl ?_
    exact x_tnm2 hl hl2 hq hn
  | true =>
    rw [show t_w1 (x_T I) q n v = t_w2 (x_T I) q n 1 by rw [t_w1, hb]; rfl]
    refine G_st (L := 89) (k := 2) (57, [some (.ref 1), some (.int 1)], [.int 4, .int 1], qS sw gc (x_R I (nI n) 1 v 0 (nI q)) J) (q_hn _ _ _ _) rfl ?_
    refine G_icmp_gt 82 rfl rfl (fun h9 => absurd h9 (by decide)) (fun _ => ?_)
    refine G_st (L := 89) (k := 2) (62, [some (.ref 1), some (.int 1)], [.int 1, .ref 1], qS sw gc (x_R I (nI n) 1 v 0 (nI q)) J) (q_hn _ _ _ _) rfl ?_
    refine G_callS (as := [.int 1]) (rest := [.ref 1]) rfl rfl rfl (Nat.le_of_ble_eq_true rfl) x_nameOf1 x_out_n ?_
    refine G_st (L := 89) (k := 0) (65, [some (.ref 1), some (.int 1)], [.float 4, .ref 1], qS sw gc (x_R I (nI n) 1 v 0 (nI q)) J) (q_hn _ _ _ _) rfl ?_
    refine G_callV (b := 1) (ci := 3) (as := [.float 4]) (rest := []) rfl rfl rfl (q_lt (by decide)) (by decide) rfl rfl (Nat.le_of_ble_eq_true rfl) (GM_r (x_isTakenName1 hl hl2 hq hn) (congrArg q_b hb)) x_out_n ?_
    refine G_st (L := 89) (k := 0) (68, [some (.ref 1), some (.int 1)], [.int 1], qS sw gc (x_R I (nI n) 1 v 0 (nI q)) J) (q_hn _ _ _ _) rfl ?_
    refine G_if_eq 76 rfl rfl (fun h9 => absurd h9 (by decide)) (fun _ => ?_)
    refine G_st (L := 89) (k := 5) (55, [some (.ref 1), some (.int 2)], [], qS sw gc (q_u (x_R I (nI n) 1 v 0 (nI q)) 1 3 1) J) (q_hn _ _ _ _) rfl ?_
    rw [x_R3]
    exact x_tnm2 hl hl2 hq hn
theorem x_tnm0 {d : Nat} {sw : Bool} {gc : Nat} {I : Nat → Nat → Int32} {J : Nat → Nat → Int64} {l : Nat} (hl : I 2 1 = nI l) (hl2 : l ≤ 200) {q n : Nat} (hq : q ≤ n) (hn : n ≤ 900) {v : Int32} : G (d + 5) 36 (55, [some (.ref 1), some (.int 0)], [], qS sw gc (x_R I (nI n) 1 v 0 (nI q)) J) none (qS sw gc (x_R I (nI n) 1 (t_w0 (x_T I) q n v) (q_b (decide (t_w0 (x_T I) q n v = (-4)))) (nI q)) J) := by
  cases hb : t_nm0 (x_T I) q n with
  | false =>
    rw [show t_w0 (x_T I) q n v = t_w1 (x_T I) q n v by rw [t_w0, hb]; rfl]
    refine G_st (L := 89) (k := 2) (57, [some (.ref 1), some (.int 0)], [.int 4, .int 0], qS sw gc (x_R I (nI n) 1 v 0 (nI q)) J) (q_hn _ _ _ _) rfl ?_
    refine G_icmp_gt 82 rfl rfl (fun h9 => absurd h9 (by decide)) (fun _ => ?_)
    refine G_st (L := 89) (k := 2) (62, [some (.ref 1), some (.int 0)], [.int 0, .ref 1], qS sw gc (x_R I (nI n) 1 v 0 (nI q)) J) (q_hn _ _ _ _) rfl ?_
    refine G_callS (as := [.int 0]) (rest := [.ref 1]) rfl rfl rfl (Nat.le_of_ble_eq_true rfl) x_nameOf0 x_out_n ?_
    refine G_st (L := 89) (k := 0) (65, [some (.ref 1), some (.int 0)], [.float 3, .ref 1], qS sw gc (x_R I (nI n) 1 v 0 (nI q)) J) (q_hn _ _ _ _) rfl ?_
    refine G_callV (b := 1) (ci := 3) (as := [.float 3]) (rest := []) rfl rfl rfl (q_lt (by decide)) (by decide) rfl rfl (Nat.le_of_ble_eq_true rfl) (GM_r (x_isTakenName0 hl hl2 hq hn) (congrArg q_b hb)) x_out_n ?_
    refine G_st (L := 89) (k := 0) (68, [some (.ref 1), some (.int 0)], [.int 0], qS sw gc (x_R I (nI n) 1 v 0 (nI q)) J) (q_hn _ _ _ _) rfl ?_
    refine G_if_eq 76 rfl rfl (fun _ => ?_) (fun h9 => absurd h9 (by decide))
    refine G_st (L := 89) (k := 2) (55, [some (.ref 1), some (.int 1)], [], qS sw gc (x_R I (nI n) 1 v 0 (nI q)) J) (q_hn _ _ _ _) rfl ?_
    exact x_tnm1 hl hl2 hq hn
  | true =>
    rw [show t_w0 (x_T I) q n v = t_w1 (x_T I) q n 0 by rw [t_w0, hb]; rfl]
    refine G_st (L := 89) (k := 2) (57, [some (.ref 1), some (.int 0)], [.int 4, .int 0], qS sw gc (x_R I (nI n) 1 v 0 (nI q)) J) (q_hn _ _ _ _) rfl ?_
    refine G_icmp_gt 82 rfl rfl (fun h9 => absurd h9 (by decide)) (fun _ => ?_)
    refine G_st (L := 89) (k := 2) (62, [some (.ref 1), some (.int 0)], [.int 0, .ref 1], qS sw gc (x_R I (nI n) 1 v 0 (nI q)) J) (q_hn _ _ _ _) rfl ?_
    refine G_callS (as := [.int 0]) (rest := [.ref 1]) rfl rfl rfl (Nat.le_of_ble_eq_true rfl) x_nameOf0 x_out_n ?_
    refine G_st (L := 89) (k := 0) (65, [some (.ref 1), some (.int 0)], [.float 3, .ref 1], qS sw gc (x_R I (nI n) 1 v 0 (nI q)) J) (q_hn _ _ _ _) rfl ?_
    refine G_callV (b := 1) (ci := 3) (as := [.float 3]) (rest := []) rfl rfl rfl (q_lt (by decide)) (by decide) rfl rfl (Nat.le_of_ble_eq_true rfl) (GM_r (x_isTakenName0 hl hl2 hq hn) (congrArg q_b hb)) x_out_n ?_
    refine G_st (L := 89) (k := 0) (68, [some (.ref 1), some (.int 0)], [.int 1], qS sw gc (x_R I (nI n) 1 v 0 (nI q)) J) (q_hn _ _ _ _) rfl ?_
    refine G_if_eq 76 rfl rfl (fun h9 => absurd h9 (by decide)) (fun _ => ?_)
    refine G_st (L := 89) (k := 5) (55, [some (.ref 1), some (.int 1)], [], qS sw gc (q_u (x_R I (nI n) 1 v 0 (nI q)) 1 3 0) J) (q_hn _ _ _ _) rfl ?_
    rw [x_R3]
    exact x_tnm1 hl hl2 hq hn
theorem x_tl_loop {d : Nat} {sw : Bool} {gc : Nat} {I : Nat → Nat → Int32} {J : Nat → Nat → Int64} {l : Nat} (hl : I 2 1 = nI l) (hl2 : l ≤ 200) {q : Nat} {v : Int32} : ∀ (n i p : Nat), i + n = 200 → p + n ≤ 900 → q ≤ p → G (d + 5) 36 (7, [some (.ref 1), some (.int (nI i))], [], qS sw gc (x_R I (nI p) 1 v 0 (nI q)) J) none (qS sw gc (x_R I (nI (q_run q_isL (x_T I) n p)) 1 (t_w0 (x_T I) q (q_run q_isL (x_T I) n p) (-4)) (q_b (decide (t_w0 (x_T I) q (q_run q_isL (x_T I) n p) (-4) = (-4)))) (nI q)) J) := by
  intro n
  induction n with
  | zero =>
    intro i p h h2 hq
    obtain rfl : i = 200 := by omega
    refine G_st (L := 89) (k := 2) (11, [some (.ref 1), some (.int 200)], [.int 200, .int 200], qS sw gc (x_R I (nI p) 1 v 0 (nI q)) J) (q_hn _ _ _ _) rfl ?_
    refine G_icmp_ge 47 rfl rfl (fun _ => ?_) (fun h9 => absurd h9 (by decide))
    refine G_st (L := 89) (k := 5) (55, [some (.ref 1), some (.int 0)], [], qS sw gc (q_u (x_R I (nI p) 1 v 0 (nI q)) 1 3 (-4)) J) (q_hn _ _ _ _) rfl ?_
    rw [x_R3]
    exact x_tnm0 hl hl2 hq (by omega)
  | succ n ih =>
    intro i p h h2 hq
    rcases f_isL_01 (x_T I p) with hf | hf
    · rw [show q_run q_isL (x_T I) (n + 1) p = p by rw [q_run, q_isL0 hf]; rfl]
      refine G_st (L := 89) (k := 2) (11, [some (.ref 1), some (.int (nI i))], [.int 200, .int (nI i)], qS sw gc (x_R I (nI p) 1 v 0 (nI q)) J) (q_hn _ _ _ _) rfl ?_
      refine G_icmp_ge 47 rfl rfl (fun h9 => absurd h9 (nI_ge (b := 200) (by omega) (by decide))) (fun _ => ?_)
      refine G_st (L := 89) (k := 4) (22, [some (.ref 1), some (.int (nI i))], [.int (nI p), .ref 2], qS sw gc (x_R I (nI p) 1 v 0 (nI q)) J) (q_hn _ _ _ _) rfl ?_
      rw [show nI p = nI p from rfl]
      refine G_callV (b := 2) (ci := 6) (as := [.int (nI p)]) (rest := []) rfl rfl rfl (q_lt (by decide)) (by decide) rfl rfl (Nat.le_of_ble_eq_true rfl) (x_byT (l := l) hl hl2 (by omega)) x_out_n ?_
      refine G_st (L := 89) (k := 0) (25, [some (.ref 1), some (.int (nI i))], [.int (x_T I p)], qS sw gc (x_R I (nI p) 1 v 0 (nI q)) J) (q_hn _ _ _ _) rfl ?_
      refine G_callS (as := [.int (x_T I p)]) (rest := []) rfl rfl rfl (Nat.le_of_ble_eq_true rfl) (GM_r (m_isLetter _) hf) x_out_n ?_
      refine G_st (L := 89) (k := 0) (28, [some (.ref 1), some (.int (nI i))], [.int 0], qS sw gc (x_R I (nI p) 1 v 0 (nI q)) J) (q_hn _ _ _ _) rfl ?_
      refine G_if_eq 47 rfl rfl (fun _ => ?_) (fun h9 => absurd h9 (by decide))
      refine G_st (L := 89) (k := 5) (55, [some (.ref 1), some (.int 0)], [], qS sw gc (q_u (x_R I (nI p) 1 v 0 (nI q)) 1 3 (-4)) J) (q_hn _ _ _ _) rfl ?_
      rw [x_R3]
      exact x_tnm0 hl hl2 hq (by omega)
    · rw [show q_run q_isL (x_T I) (n + 1) p = q_run q_isL (x_T I) n (p + 1) by rw [q_run, q_isL1 hf]; rfl]
      refine G_st (L := 89) (k := 2) (11, [some (.ref 1), some (.int (nI i))], [.int 200, .int (nI i)], qS sw gc (x_R I (nI p) 1 v 0 (nI q)) J) (q_hn _ _ _ _) rfl ?_
      refine G_icmp_ge 47 rfl rfl (fun h9 => absurd h9 (nI_ge (b := 200) (by omega) (by decide))) (fun _ => ?_)
      refine G_st (L := 89) (k := 4) (22, [some (.ref 1), some (.int (nI i))], [.int (nI p), .ref 2], qS sw gc (x_R I (nI p) 1 v 0 (nI q)) J) (q_hn _ _ _ _) rfl ?_
      rw [show nI p = nI p from rfl]
      refine G_callV (b := 2) (ci := 6) (as := [.int (nI p)]) (rest := []) rfl rfl rfl (q_lt (by decide)) (by decide) rfl rfl (Nat.le_of_ble_eq_true rfl) (x_byT (l := l) hl hl2 (by omega)) x_out_n ?_
      refine G_st (L := 89) (k := 0) (25, [some (.ref 1), some (.int (nI i))], [.int (x_T I p)], qS sw gc (x_R I (nI p) 1 v 0 (nI q)) J) (q_hn _ _ _ _) rfl ?_
      refine G_callS (as := [.int (x_T I p)]) (rest := []) rfl rfl rfl (Nat.le_of_ble_eq_true rfl) (GM_r (m_isLetter _) hf) x_out_n ?_
      refine G_st (L := 89) (k := 0) (28, [some (.ref 1), some (.int (nI i))], [.int 1], qS sw gc (x_R I (nI p) 1 v 0 (nI q)) J) (q_hn _ _ _ _) rfl ?_
      refine G_if_eq 47 rfl rfl (fun h9 => absurd h9 (by decide)) (fun _ => ?_)
      refine G_st (L := 89) (k := 8) (7, [some (.ref 1), some (.int ((nI i) + 1))], [], qS sw gc (q_u (x_R I (nI p) 1 v 0 (nI q)) 1 1 ((nI p) + 1)) J) (q_hn _ _ _ _) rfl ?_
      rw [show (nI i) + 1 = nI (i + 1) from (q_addP rfl rfl)]
      rw [x_R1]
      rw [show (nI p) + 1 = nI (p + 1) from q_addP rfl rfl]
      exact ih (i + 1) (p + 1) (by omega) (by omega) (by omega)
theorem x_takeName {d : Nat} {sw : Bool} {gc : Nat} {I : Nat → Nat → Int32} {J : Nat → Nat → Int64} {l : Nat} (hl : I 2 1 = nI l) (hl2 : l ≤ 200) {p : Nat} (hp : p ≤ 500) {b c : Int32} : GM (d + 5) 36 [.ref 1] (qS sw gc (x_R I (nI p) b c 0 (nI p)) J) (none) (qS sw gc (x_R I (nI (q_run q_isL (x_T I) 200 p)) 1 (t_w0 (x_T I) p (q_run q_isL (x_T I) 200 p) (-4)) (q_b (decide (t_w0 (x_T I) p (q_run q_isL (x_T I) 200 p) (-4) = (-4)))) (nI p)) J) := by
  refine GM_of (by decide) x_out_n (Nat.le_of_ble_eq_true rfl) trivial ?_
  refine G_st (L := 89) (k := 0) (0, [some (.ref 1), none], [], qS sw gc (x_R I (nI p) b c 0 (nI p)) J) (q_hn _ _ _ _) rfl ?_
  refine G_st (L := 89) (k := 5) (7, [some (.ref 1), some (.int 0)], [], qS sw gc (q_u (x_R I (nI p) b c 0 (nI p)) 1 2 1) J) (q_hn _ _ _ _) rfl ?_
  rw [x_R2]
  exact x_tl_loop hl hl2 200 0 p (by omega) (by omega) (Nat.le_refl _)
def t_q (t : Nat → Int32) (p : Nat) : Nat := q_run q_isB t 200 p
def t_k (c : Int32) : Nat := if c = -1 then 0 else if q_isL c = true then 1 else if q_isF c = true then 2 else 3
def t_n (t : Nat → Int32) (q : Nat) : Nat := if t q = -1 then q else if q_isL (t q) = true then q_run q_isL t 200 q else if q_isF (t q) = true then q_run q_isF t 200 q else q + 1
def t_v (t : Nat → Int32) (q : Nat) (v : Int32) : Int32 := if t q = -1 then v else if q_isL (t q) = true then t_w0 t q (q_run q_isL t 200 q) (-4) else if q_isF (t q) = true then q_val t 200 q 0 else v
def t_e (t : Nat → Int32) (q : Nat) : Int32 := if t q = -1 then 0 else if q_isL (t q) = true then q_b (decide (t_w0 t q (q_run q_isL t 200 q) (-4) = (-4))) else if q_isF (t q) = true then q_b (!decide (q_run q_isF t 200 q - q ≤ 4)) else if t q = 59 then 0 else 1
theorem x_readTokenF {d : Nat} {sw : Bool} {gc : Nat} {I : Nat → Nat → Int32} {J : Nat → Nat → Int64} {a b c f e : Int32} (hf : ¬ f = 0) : GM (d + 6) 34 [.ref 1] (qS sw gc (x_R I a b c f e) J) (none) (qS sw gc (x_R I a b c f e) J) := by
  refine GM_of (by decide) x_out_n (Nat.le_of_ble_eq_true rfl) trivial ?_
  refine G_st (L := 89) (k := 0) (0, [some (.ref 1), none], [], qS sw gc (x_R I a b c f e) J) (q_hn _ _ _ _) rfl ?_
  refine G_st (L := 89) (k := 2) (4, [some (.ref 1), none], [.int f], qS sw gc (x_R I a b c f e) J) (q_hn _ _ _ _) rfl ?_
  refine G_if_eq 8 rfl rfl (fun h9 => absurd h9 hf) (fun _ => ?_)
  exact G_ret rfl rfl rfl rfl
theorem x_skipQ {d : Nat} {sw : Bool} {gc : Nat} {I : Nat → Nat → Int32} {J : Nat → Nat → Int64} {l : Nat} (hl : I 2 1 = nI l) (hl2 : l ≤ 200) {p q : Nat} (hp : p ≤ 200) (hq : t_q (x_T I) p = q) {b c f e : Int32} : GM (d + 1) 35 [.ref 1] (qS sw gc (x_R I (nI p) b c f e) J) none (qS sw gc (x_R I (nI q) b c f e) J) := by
  subst hq
  exact x_skipBlanks hl hl2 (by omega)
theorem x_readToken {d : Nat} {sw : Bool} {gc : Nat} {I : Nat → Nat → Int32} {J : Nat → Nat → Int64} {l : Nat} (hl : I 2 1 = nI l) (hl2 : l ≤ 200) {p q : Nat} (hp : p ≤ 200) (hq : t_q (x_T I) p = q) (hq4 : q ≤ 400) {b c e : Int32}  : GM (d + 6) 34 [.ref 1] (qS sw gc (x_R I (nI p) b c 0 e) J) none (qS sw gc (x_R I (nI (t_n (x_T I) q)) (nI (t_k (x_T I q))) (t_v (x_T I) q c) (t_e (x_T I) q) (nI q)) J) := by
  refine GM_of (by decide) x_out_n (Nat.le_of_ble_eq_true rfl) trivial ?_
  by_cases hE : x_T I q = -1
  · rw [t_n, if_pos hE, t_k, if_pos hE, t_v, if_pos hE, t_e, if_pos hE]
    refine G_st (L := 89) (k := 2) (4, [some (.ref 1), none], [.int 0], qS sw gc (x_R I (nI p) b c 0 e) J) (q_hn _ _ _ _) rfl ?_
    refine G_if_eq 8 rfl rfl (fun _ => ?_) (fun h9 => absurd h9 (by decide))
    refine G_st (L := 89) (k := 1) (9, [some (.ref 1), none], [.ref 1], qS sw gc (x_R I (nI p) b c 0 e) J) (q_hn _ _ _ _) rfl ?_
    refine G_callV (b := 1) (ci := 3) (as := []) (rest := []) rfl rfl rfl (q_lt (by decide)) (by decide) rfl rfl (Nat.le_of_ble_eq_true rfl) (x_skipQ hl hl2 hp hq) x_out_n ?_
    refine G_st (L := 89) (k := 8) (28, [some (.ref 1), none], [.int (nI q), .ref 2], qS sw gc (q_u (x_R I (nI q) b c 0 e) 1 5 (nI q)) J) (q_hn _ _ _ _) rfl ?_
    rw [show nI q = nI q from rfl]
    rw [x_R5]
    refine G_callV (b := 2) (ci := 6) (as := [.int (nI q)]) (rest := []) rfl rfl rfl (q_lt (by decide)) (by decide) rfl rfl (Nat.le_of_ble_eq_true rfl) (x_byT (l := l) hl hl2 (by omega)) x_out_n ?_
    refine G_st (L := 89) (k := 3) (34, [some (.ref 1), some (.int (x_T I q))], [.int (-1), .int (x_T I q)], qS sw gc (x_R I (nI q) b c 0 (nI q)) J) (q_hn _ _ _ _) rfl ?_
    refine G_icmp_ne 45 rfl rfl (fun h9 => absurd hE h9) (fun _ => ?_)
    refine G_st (L := 89) (k := 4) (104, [some (.ref 1), some (.int (x_T I q))], [], qS sw gc (q_u (x_R I (nI q) b c 0 (nI q)) 1 2 0) J) (q_hn _ _ _ _) rfl ?_
    rw [x_R2]
    exact G_ret rfl rfl rfl rfl
  · rcases f_isL_01 (x_T I q) with hL | hL
    · have hL2 : ¬ q_isL (x_T I q) = true := by rw [q_isL0 hL]; decide
      rcases f_isF_01 (x_T I q) with hF | hF
      · have hF2 : ¬ q_isF (x_T I q) = true := by rw [q_isF0 hF]; decide
        rw [t_n, if_neg hE, if_neg hL2, if_neg hF2, t_k, if_neg hE, if_neg hL2, if_neg hF2, t_v, if_neg hE, if_neg hL2, if_neg hF2, t_e, if_neg hE, if_neg hL2, if_neg hF2]
        by_cases hS : x_T I q = 59
        · rw [if_pos hS]
          refine G_st (L := 89) (k := 2) (4, [some (.ref 1), none], [.int 0], qS sw gc (x_R I (nI p) b c 0 e) J) (q_hn _ _ _ _) rfl ?_
          refine G_if_eq 8 rfl rfl (fun _ => ?_) (fun h9 => absurd h9 (by decide))
          refine G_st (L := 89) (k := 1) (9, [some (.ref 1), none], [.ref 1], qS sw gc (x_R I (nI p) b c 0 e) J) (q_hn _ _ _ _) rfl ?_
          refine G_callV (b := 1) (ci := 3) (as := []) (rest := []) rfl rfl rfl (q_lt (by decide)) (by decide) rfl rfl (Nat.le_of_ble_eq_true rfl) (x_skipQ hl hl2 hp hq) x_out_n ?_
          refine G_st (L := 89) (k := 8) (28, [some (.ref 1), none], [.int (nI q), .ref 2], qS sw gc (q_u (x_R I (nI q) b c 0 e) 1 5 (nI q)) J) (q_hn _ _ _ _) rfl ?_
          rw [show nI q = nI q from rfl]
          rw [x_R5]
          refine G_callV (b := 2) (ci := 6) (as := [.int (nI q)]) (rest := []) rfl rfl rfl (q_lt (by decide)) (by decide) rfl rfl (Nat.le_of_ble_eq_true rfl) (x_byT (l := l) hl hl2 (by omega)) x_out_n ?_
          refine G_st (L := 89) (k := 3) (34, [some (.ref 1), some (.int (x_T I q))], [.int (-1), .int (x_T I q)], qS sw gc (x_R I (nI q) b c 0 (nI q)) J) (q_hn _ _ _ _) rfl ?_
          refine G_icmp_ne 45 rfl rfl (fun _ => ?_) (fun h9 => absurd h9 hE)
          refine G_st (L := 89) (k := 1) (46, [some (.ref 1), some (.int (x_T I q))], [.int (x_T I q)], qS sw gc (x_R I (nI q) b c 0 (nI q)) J) (q_hn _ _ _ _) rfl ?_
          refine G_callS (as := [.int (x_T I q)]) (rest := []) rfl rfl rfl (Nat.le_of_ble_eq_true rfl) (GM_r (m_isLetter _) hL) x_out_n ?_
          refine G_st (L := 89) (k := 0) (49, [some (.ref 1), some (.int (x_T I q))], [.int 0], qS sw gc (x_R I (nI q) b c 0 (nI q)) J) (q_hn _ _ _ _) rfl ?_
          refine G_if_eq 59 rfl rfl (fun _ => ?_) (fun h9 => absurd h9 (by decide))
          refine G_st (L := 89) (k := 1) (60, [some (.ref 1), some (.int (x_T I q))], [.int (x_T I q)], qS sw gc (x_R I (nI q) b c 0 (nI q)) J) (q_hn _ _ _ _) rfl ?_
          refine G_callS (as := [.int (x_T I q)]) (rest := []) rfl rfl rfl (Nat.le_of_ble_eq_true rfl) (GM_r (m_isFigure _) hF) x_out_n ?_
          refine G_st (L := 89) (k := 0) (63, [some (.ref 1), some (.int (x_T I q))], [.int 0], qS sw gc (x_R I (nI q) b c 0 (nI q)) J) (q_hn _ _ _ _) rfl ?_
          refine G_if_eq 73 rfl rfl (fun _ => ?_) (fun h9 => absurd h9 (by decide))
          refine G_st (L := 89) (k := 12) (92, [some (.ref 1), some (.int (x_T I q))], [.int 59, .int (x_T I q), .ref 1], qS sw gc (q_u (q_u (x_R I (nI q) b c 0 (nI q)) 1 2 3) 1 1 ((nI q) + 1)) J) (q_hn _ _ _ _) rfl ?_
          rw [x_R2]
          rw [x_R1]
          rw [show (nI q) + 1 = nI (q + 1) from q_addP rfl rfl]
          refine G_icmp_ne 99 rfl rfl (fun h9 => absurd hS h9) (fun _ => ?_)
          refine G_st (L := 89) (k := 3) (101, [some (.ref 1), some (.int (x_T I q))], [.int 1, .int 1, .ref 1], qS sw gc (x_R I (nI (q + 1)) 3 c 0 (nI q)) J) (q_hn _ _ _ _) rfl ?_
          refine G_callV (b := 1) (ci := 3) (as := [.int 1, .int 1]) (rest := []) rfl rfl rfl (q_lt (by decide)) (by decide) rfl rfl (Nat.le_of_ble_eq_true rfl) x_req1 x_out_n ?_
          refine G_st (L := 89) (k := 0) (104, [some (.ref 1), some (.int (x_T I q))], [], qS sw gc (x_R I (nI (q + 1)) 3 c 0 (nI q)) J) (q_hn _ _ _ _) rfl ?_
          exact G_ret rfl rfl rfl rfl
        · rw [if_neg hS]
          refine G_st (L := 89) (k := 2) (4, [some (.ref 1), none], [.int 0], qS sw gc (x_R I (nI p) b c 0 e) J) (q_hn _ _ _ _) rfl ?_
          refine G_if_eq 8 rfl rfl (fun _ => ?_) (fun h9 => absurd h9 (by decide))
          refine G_st (L := 89) (k := 1) (9, [some (.ref 1), none], [.ref 1], qS sw gc (x_R I (nI p) b c 0 e) J) (q_hn _ _ _ _) rfl ?_
          refine G_callV (b := 1) (ci := 3) (as := []) (rest := []) rfl rfl rfl (q_lt (by decide)) (by decide) rfl rfl (Nat.le_of_ble_eq_true rfl) (x_skipQ hl hl2 hp hq) x_out_n ?_
          refine G_st (L := 89) (k := 8) (28, [some (.ref 1), none], [.int (nI q), .ref 2], qS sw gc (q_u (x_R I (nI q) b c 0 e) 1 5 (nI q)) J) (q_hn _ _ _ _) rfl ?_
          rw [show nI q = nI q from rfl]
          rw [x_R5]
          refine G_callV (b := 2) (ci := 6) (as := [.int (nI q)]) (rest := []) rfl rfl rfl (q_lt (by decide)) (by decide) rfl rfl (Nat.le_of_ble_eq_true rfl) (x_byT (l := l) hl hl2 (by omega)) x_out_n ?_
          refine G_st (L := 89) (k := 3) (34, [some (.ref 1), some (.int (x_T I q))], [.int (-1), .int (x_T I q)], qS sw gc (x_R I (nI q) b c 0 (nI q)) J) (q_hn _ _ _ _) rfl ?_
          refine G_icmp_ne 45 rfl rfl (fun _ => ?_) (fun h9 => absurd h9 hE)
          refine G_st (L := 89) (k := 1) (46, [some (.ref 1), some (.int (x_T I q))], [.int (x_T I q)], qS sw gc (x_R I (nI q) b c 0 (nI q)) J) (q_hn _ _ _ _) rfl ?_
          refine G_callS (as := [.int (x_T I q)]) (rest := []) rfl rfl rfl (Nat.le_of_ble_eq_true rfl) (GM_r (m_isLetter _) hL) x_out_n ?_
          refine G_st (L := 89) (k := 0) (49, [some (.ref 1), some (.int (x_T I q))], [.int 0], qS sw gc (x_R I (nI q) b c 0 (nI q)) J) (q_hn _ _ _ _) rfl ?_
          refine G_if_eq 59 rfl rfl (fun _ => ?_) (fun h9 => absurd h9 (by decide))
          refine G_st (L := 89) (k := 1) (60, [some (.ref 1), some (.int (x_T I q))], [.int (x_T I q)], qS sw gc (x_R I (nI q) b c 0 (nI q)) J) (q_hn _ _ _ _) rfl ?_
          refine G_callS (as := [.int (x_T I q)]) (rest := []) rfl rfl rfl (Nat.le_of_ble_eq_true rfl) (GM_r (m_isFigure _) hF) x_out_n ?_
          refine G_st (L := 89) (k := 0) (63, [some (.ref 1), some (.int (x_T I q))], [.int 0], qS sw gc (x_R I (nI q) b c 0 (nI q)) J) (q_hn _ _ _ _) rfl ?_
          refine G_if_eq 73 rfl rfl (fun _ => ?_) (fun h9 => absurd h9 (by decide))
          refine G_st (L := 89) (k := 12) (92, [some (.ref 1), some (.int (x_T I q))], [.int 59, .int (x_T I q), .ref 1], qS sw gc (q_u (q_u (x_R I (nI q) b c 0 (nI q)) 1 2 3) 1 1 ((nI q) + 1)) J) (q_hn _ _ _ _) rfl ?_
          rw [x_R2]
          rw [x_R1]
          rw [show (nI q) + 1 = nI (q + 1) from q_addP rfl rfl]
          refine G_icmp_ne 99 rfl rfl (fun _ => ?_) (fun h9 => absurd h9 hS)
          refine G_st (L := 89) (k := 2) (101, [some (.ref 1), some (.int (x_T I q))], [.int 1, .int 0, .ref 1], qS sw gc (x_R I (nI (q + 1)) 3 c 0 (nI q)) J) (q_hn _ _ _ _) rfl ?_
          refine G_callV (b := 1) (ci := 3) (as := [.int 0, .int 1]) (rest := []) rfl rfl rfl (q_lt (by decide)) (by decide) rfl rfl (Nat.le_of_ble_eq_true rfl) x_req0 x_out_n ?_
          refine G_st (L := 89) (k := 0) (104, [some (.ref 1), some (.int (x_T I q))], [], qS sw gc (x_R I (nI (q + 1)) 3 c 1 (nI q)) J) (q_hn _ _ _ _) rfl ?_
          exact G_ret rfl rfl rfl rfl
      · have hF2 : q_isF (x_T I q) = true := q_isF1 hF
        rw [t_n, if_neg hE, if_neg hL2, if_pos hF2, t_k, if_neg hE, if_neg hL2, if_pos hF2, t_v, if_neg hE, if_neg hL2, if_pos hF2, t_e, if_neg hE, if_neg hL2, if_pos hF2]
        refine G_st (L := 89) (k := 2) (4, [some (.ref 1), none], [.int 0], qS sw gc (x_R I (nI p) b c 0 e) J) (q_hn _ _ _ _) rfl ?_
        refine G_if_eq 8 rfl rfl (fun _ => ?_) (fun h9 => absurd h9 (by decide))
        refine G_st (L := 89) (k := 1) (9, [some (.ref 1), none], [.ref 1], qS sw gc (x_R I (nI p) b c 0 e) J) (q_hn _ _ _ _) rfl ?_
        refine G_callV (b := 1) (ci := 3) (as := []) (rest := []) rfl rfl rfl (q_lt (by decide)) (by decide) rfl rfl (Nat.le_of_ble_eq_true rfl) (x_skipQ hl hl2 hp hq) x_out_n ?_
        refine G_st (L := 89) (k := 8) (28, [some (.ref 1), none], [.int (nI q), .ref 2], qS sw gc (q_u (x_R I (nI q) b c 0 e) 1 5 (nI q)) J) (q_hn _ _ _ _) rfl ?_
        rw [show nI q = nI q from rfl]
        rw [x_R5]
        refine G_callV (b := 2) (ci := 6) (as := [.int (nI q)]) (rest := []) rfl rfl rfl (q_lt (by decide)) (by decide) rfl rfl (Nat.le_of_ble_eq_true rfl) (x_byT (l := l) hl hl2 (by omega)) x_out_n ?_
        refine G_st (L := 89) (k := 3) (34, [some (.ref 1), some (.int (x_T I q))], [.int (-1), .int (x_T I q)], qS sw gc (x_R I (nI q) b c 0 (nI q)) J) (q_hn _ _ _ _) rfl ?_
        refine G_icmp_ne 45 rfl rfl (fun _ => ?_) (fun h9 => absurd h9 hE)
        refine G_st (L := 89) (k := 1) (46, [some (.ref 1), some (.int (x_T I q))], [.int (x_T I q)], qS sw gc (x_R I (nI q) b c 0 (nI q)) J) (q_hn _ _ _ _) rfl ?_
        refine G_callS (as := [.int (x_T I q)]) (rest := []) rfl rfl rfl (Nat.le_of_ble_eq_true rfl) (GM_r (m_isLetter _) hL) x_out_n ?_
        refine G_st (L := 89) (k := 0) (49, [some (.ref 1), some (.int (x_T I q))], [.int 0], qS sw gc (x_R I (nI q) b c 0 (nI q)) J) (q_hn _ _ _ _) rfl ?_
        refine G_if_eq 59 rfl rfl (fun _ => ?_) (fun h9 => absurd h9 (by decide))
        refine G_st (L := 89) (k := 1) (60, [some (.ref 1), some (.int (x_T I q))], [.int (x_T I q)], qS sw gc (x_R I (nI q) b c 0 (nI q)) J) (q_hn _ _ _ _) rfl ?_
        refine G_callS (as := [.int (x_T I q)]) (rest := []) rfl rfl rfl (Nat.le_of_ble_eq_true rfl) (GM_r (m_isFigure _) hF) x_out_n ?_
        refine G_st (L := 89) (k := 0) (63, [some (.ref 1), some (.int (x_T I q))], [.int 1], qS sw gc (x_R I (nI q) b c 0 (nI q)) J) (q_hn _ _ _ _) rfl ?_
        refine G_if_eq 73 rfl rfl (fun h9 => absurd h9 (by decide)) (fun _ => ?_)
        refine G_st (L := 89) (k := 1) (67, [some (.ref 1), some (.int (x_T I q))], [.ref 1], qS sw gc (x_R I (nI q) b c 0 (nI q)) J) (q_hn _ _ _ _) rfl ?_
        refine G_callV (b := 1) (ci := 3) (as := []) (rest := []) rfl rfl rfl (q_lt (by decide)) (by decide) rfl rfl (Nat.le_of_ble_eq_true rfl) (x_takeNumber hl hl2 (by omega)) x_out_n ?_
        refine G_st (L := 89) (k := 1) (104, [some (.ref 1), some (.int (x_T I q))], [], qS sw gc (x_R I (nI (q_run q_isF (x_T I) 200 q)) 2 (q_val (x_T I) 200 q 0) (q_b (!decide (q_run q_isF (x_T I) 200 q - q ≤ 4))) (nI q)) J) (q_hn _ _ _ _) rfl ?_
        exact G_ret rfl rfl rfl rfl
    · have hL2 : q_isL (x_T I q) = true := q_isL1 hL
      rw [t_n, if_neg hE, if_pos hL2, t_k, if_neg hE, if_pos hL2, t_v, if_neg hE, if_pos hL2, t_e, if_neg hE, if_pos hL2]
      refine G_st (L := 89) (k := 2) (4, [some (.ref 1), none], [.int 0], qS sw gc (x_R I (nI p) b c 0 e) J) (q_hn _ _ _ _) rfl ?_
      refine G_if_eq 8 rfl rfl (fun _ => ?_) (fun h9 => absurd h9 (by decide))
      refine G_st (L := 89) (k := 1) (9, [some (.ref 1), none], [.ref 1], qS sw gc (x_R I (nI p) b c 0 e) J) (q_hn _ _ _ _) rfl ?_
      refine G_callV (b := 1) (ci := 3) (as := []) (rest := []) rfl rfl rfl (q_lt (by decide)) (by decide) rfl rfl (Nat.le_of_ble_eq_true rfl) (x_skipQ hl hl2 hp hq) x_out_n ?_
      refine G_st (L := 89) (k := 8) (28, [some (.ref 1), none], [.int (nI q), .ref 2], qS sw gc (q_u (x_R I (nI q) b c 0 e) 1 5 (nI q)) J) (q_hn _ _ _ _) rfl ?_
      rw [show nI q = nI q from rfl]
      rw [x_R5]
      refine G_callV (b := 2) (ci := 6) (as := [.int (nI q)]) (rest := []) rfl rfl rfl (q_lt (by decide)) (by decide) rfl rfl (Nat.le_of_ble_eq_true rfl) (x_byT (l := l) hl hl2 (by omega)) x_out_n ?_
      refine G_st (L := 89) (k := 3) (34, [some (.ref 1), some (.int (x_T I q))], [.int (-1), .int (x_T I q)], qS sw gc (x_R I (nI q) b c 0 (nI q)) J) (q_hn _ _ _ _) rfl ?_
      refine G_icmp_ne 45 rfl rfl (fun _ => ?_) (fun h9 => absurd h9 hE)
      refine G_st (L := 89) (k := 1) (46, [some (.ref 1), some (.int (x_T I q))], [.int (x_T I q)], qS sw gc (x_R I (nI q) b c 0 (nI q)) J) (q_hn _ _ _ _) rfl ?_
      refine G_callS (as := [.int (x_T I q)]) (rest := []) rfl rfl rfl (Nat.le_of_ble_eq_true rfl) (GM_r (m_isLetter _) hL) x_out_n ?_
      refine G_st (L := 89) (k := 0) (49, [some (.ref 1), some (.int (x_T I q))], [.int 1], qS sw gc (x_R I (nI q) b c 0 (nI q)) J) (q_hn _ _ _ _) rfl ?_
      refine G_if_eq 59 rfl rfl (fun h9 => absurd h9 (by decide)) (fun _ => ?_)
      refine G_st (L := 89) (k := 1) (53, [some (.ref 1), some (.int (x_T I q))], [.ref 1], qS sw gc (x_R I (nI q) b c 0 (nI q)) J) (q_hn _ _ _ _) rfl ?_
      refine G_callV (b := 1) (ci := 3) (as := []) (rest := []) rfl rfl rfl (q_lt (by decide)) (by decide) rfl rfl (Nat.le_of_ble_eq_true rfl) (x_takeName hl hl2 (by omega)) x_out_n ?_
      refine G_st (L := 89) (k := 1) (104, [some (.ref 1), some (.int (x_T I q))], [], qS sw gc (x_R I (nI (q_run q_isL (x_T I) 200 q)) 1 (t_w0 (x_T I) q (q_run q_isL (x_T I) 200 q) (-4)) (q_b (decide (t_w0 (x_T I) q (q_run q_isL (x_T I) 200 q) (-4) = (-4)))) (nI q)) J) (q_hn _ _ _ _) rfl ?_
      exact G_ret rfl rfl rfl rfl
