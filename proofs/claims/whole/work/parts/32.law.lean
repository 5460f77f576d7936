theorem x_R_cm {I : Nat → Nat → Int32} {a b c d e : Int32} {i k : Nat} {z : Int32} (h : ¬ i = 1) : q_u (x_R I a b c d e) i k z = x_R (q_u I i k z) a b c d e := by
  funext i' j
  by_cases h1 : i' = i ∧ j = k
  · obtain ⟨rfl, rfl⟩ := h1
    rw [q_us, x_R_un (by omega), q_us]
  · rw [q_un _ _ h1]
    by_cases h2 : i' = 1 ∧ 1 ≤ j ∧ j ≤ 5
    · obtain ⟨rfl, h3⟩ := h2
      unfold x_R q_u
      repeat (first | rfl | split)
    · rw [x_R_un h2, x_R_un h2, q_un _ _ h1]
theorem f_mtR4 {I : Nat → Nat → Int32} {a b c d e x : Int32} : f_mt4 (x_R I a b c d e) x = f_mt4 I x := by
  unfold f_mt4
  rw [x_R_un (by omega), x_R_un (by omega)]
theorem f_abR4 {I : Nat → Nat → Int32} {a b c d e x : Int32} : f_ab4 (x_R I a b c d e) x = f_ab4 I x := by
  unfold f_ab4
  rw [x_R_un (by omega), x_R_un (by omega)]
theorem x_lF148_4 {d : Nat} {sw : Bool} {gc : Nat} {I : Nat → Nat → Int32} {J : Nat → Nat → Int64} {a b c f e : Int32} {v n w : Int32} (hf : ¬ f = 0) : G (d + 7) 32 (148, [some (.ref 1), some (.ref 4), some (.int v), some (.int n), some (.int w)], [], qS sw gc (x_R I a b c f e) J) none (qS sw gc (x_R I a b c f e) J) := by
  refine G_st (L := 89) (k := 2) (152, [some (.ref 1), some (.ref 4), some (.int v), some (.int n), some (.int w)], [.int f], qS sw gc (x_R I a b c f e) J) (q_hn _ _ _ _) rfl ?_
  refine G_if_ne 163 rfl rfl (fun _ => ?_) (fun h9 => absurd h9 hf)
  exact G_ret rfl rfl rfl rfl
theorem x_lF130_4 {d : Nat} {sw : Bool} {gc : Nat} {I : Nat → Nat → Int32} {J : Nat → Nat → Int64} {a b c f e : Int32} {v n w : Int32} (hf : ¬ f = 0) : G (d + 7) 32 (130, [some (.ref 1), some (.ref 4), some (.int v), some (.int n), some (.int w)], [], qS sw gc (x_R I a b c f e) J) none (qS sw gc (x_R I a b c f e) J) := by
  refine G_st (L := 89) (k := 4) (136, [some (.ref 1), some (.ref 4), some (.int v), some (.int n), some (.int w)], [.int 3, .int b, .ref 1], qS sw gc (x_R I a b c f e) J) (q_hn _ _ _ _) rfl ?_
  refine G_icmp_ne 143 rfl rfl (fun h1 => ?_) (fun h1 => ?_)
  · skip
    refine G_st (L := 89) (k := 2) (145, [some (.ref 1), some (.ref 4), some (.int v), some (.int n), some (.int w)], [.int 2, .int 0, .ref 1], qS sw gc (x_R I a b c f e) J) (q_hn _ _ _ _) rfl ?_
    refine G_callV (b := 1) (ci := 3) (as := [.int 0, .int 2]) (rest := []) rfl rfl rfl (q_lt (by decide)) (by decide) rfl rfl (Nat.le_of_ble_eq_true rfl) (x_reqF hf) x_out_n ?_
    refine G_st (L := 89) (k := 0) (148, [some (.ref 1), some (.ref 4), some (.int v), some (.int n), some (.int w)], [], qS sw gc (x_R I a b c f e) J) (q_hn _ _ _ _) rfl ?_
    exact x_lF148_4 hf
  · skip
    refine G_st (L := 89) (k := 3) (145, [some (.ref 1), some (.ref 4), some (.int v), some (.int n), some (.int w)], [.int 2, .int 1, .ref 1], qS sw gc (x_R I a b c f e) J) (q_hn _ _ _ _) rfl ?_
    refine G_callV (b := 1) (ci := 3) (as := [.int 1, .int 2]) (rest := []) rfl rfl rfl (q_lt (by decide)) (by decide) rfl rfl (Nat.le_of_ble_eq_true rfl) (x_reqF hf) x_out_n ?_
    refine G_st (L := 89) (k := 0) (148, [some (.ref 1), some (.ref 4), some (.int v), some (.int n), some (.int w)], [], qS sw gc (x_R I a b c f e) J) (q_hn _ _ _ _) rfl ?_
    exact x_lF148_4 hf
theorem x_lF126_4 {d : Nat} {sw : Bool} {gc : Nat} {I : Nat → Nat → Int32} {J : Nat → Nat → Int64} {a b c f e : Int32} {v n w : Int32} (hf : ¬ f = 0) : G (d + 7) 32 (126, [some (.ref 1), some (.ref 4), some (.int v), some (.int n), some (.int w)], [], qS sw gc (x_R I a b c f e) J) none (qS sw gc (x_R I a b c f e) J) := by
  refine G_st (L := 89) (k := 1) (127, [some (.ref 1), some (.ref 4), some (.int v), some (.int n), some (.int w)], [.ref 1], qS sw gc (x_R I a b c f e) J) (q_hn _ _ _ _) rfl ?_
  refine G_callV (b := 1) (ci := 3) (as := []) (rest := []) rfl rfl rfl (q_lt (by decide)) (by decide) rfl rfl (Nat.le_of_ble_eq_true rfl) (x_readTokenF hf) x_out_n ?_
  refine G_st (L := 89) (k := 0) (130, [some (.ref 1), some (.ref 4), some (.int v), some (.int n), some (.int w)], [], qS sw gc (x_R I a b c f e) J) (q_hn _ _ _ _) rfl ?_
  exact x_lF130_4 hf
theorem x_lF110_4 {d : Nat} {sw : Bool} {gc : Nat} {I : Nat → Nat → Int32} {J : Nat → Nat → Int64} {a b c f e : Int32} {v n w : Int32} (hf : ¬ f = 0) : G (d + 7) 32 (110, [some (.ref 1), some (.ref 4), some (.int v), some (.int n), some (.int w)], [], qS sw gc (x_R I a b c f e) J) none (qS sw gc (x_R I a b c f e) J) := by
  refine G_st (L := 89) (k := 5) (119, [some (.ref 1), some (.ref 4), some (.int v), some (.int n), some (.int c)], [.int c, .ref 1], qS sw gc (x_R I a b c f e) J) (q_hn _ _ _ _) rfl ?_
  refine G_callS (as := [.int c]) (rest := [.ref 1]) rfl rfl rfl (Nat.le_of_ble_eq_true rfl) (m_isPoundage _) x_out_n ?_
  refine G_st (L := 89) (k := 1) (123, [some (.ref 1), some (.ref 4), some (.int v), some (.int n), some (.int c)], [.int 3, .int (f_isPoundage c), .ref 1], qS sw gc (x_R I a b c f e) J) (q_hn _ _ _ _) rfl ?_
  refine G_callV (b := 1) (ci := 3) (as := [.int (f_isPoundage c), .int 3]) (rest := []) rfl rfl rfl (q_lt (by decide)) (by decide) rfl rfl (Nat.le_of_ble_eq_true rfl) (x_reqF hf) x_out_n ?_
  refine G_st (L := 89) (k := 0) (126, [some (.ref 1), some (.ref 4), some (.int v), some (.int n), some (.int c)], [], qS sw gc (x_R I a b c f e) J) (q_hn _ _ _ _) rfl ?_
  exact x_lF126_4 hf
theorem x_lF92_4 {d : Nat} {sw : Bool} {gc : Nat} {I : Nat → Nat → Int32} {J : Nat → Nat → Int64} {a b c f e : Int32} {v n w : Int32} (hf : ¬ f = 0) : G (d + 7) 32 (92, [some (.ref 1), some (.ref 4), some (.int v), some (.int n), some (.int w)], [], qS sw gc (x_R I a b c f e) J) none (qS sw gc (x_R I a b c f e) J) := by
  refine G_st (L := 89) (k := 4) (98, [some (.ref 1), some (.ref 4), some (.int v), some (.int n), some (.int w)], [.int 2, .int b, .ref 1], qS sw gc (x_R I a b c f e) J) (q_hn _ _ _ _) rfl ?_
  refine G_icmp_ne 105 rfl rfl (fun h1 => ?_) (fun h1 => ?_)
  · skip
    refine G_st (L := 89) (k := 2) (107, [some (.ref 1), some (.ref 4), some (.int v), some (.int n), some (.int w)], [.int 2, .int 0, .ref 1], qS sw gc (x_R I a b c f e) J) (q_hn _ _ _ _) rfl ?_
    refine G_callV (b := 1) (ci := 3) (as := [.int 0, .int 2]) (rest := []) rfl rfl rfl (q_lt (by decide)) (by decide) rfl rfl (Nat.le_of_ble_eq_true rfl) (x_reqF hf) x_out_n ?_
    refine G_st (L := 89) (k := 0) (110, [some (.ref 1), some (.ref 4), some (.int v), some (.int n), some (.int w)], [], qS sw gc (x_R I a b c f e) J) (q_hn _ _ _ _) rfl ?_
    exact x_lF110_4 hf
  · skip
    refine G_st (L := 89) (k := 3) (107, [some (.ref 1), some (.ref 4), some (.int v), some (.int n), some (.int w)], [.int 2, .int 1, .ref 1], qS sw gc (x_R I a b c f e) J) (q_hn _ _ _ _) rfl ?_
    refine G_callV (b := 1) (ci := 3) (as := [.int 1, .int 2]) (rest := []) rfl rfl rfl (q_lt (by decide)) (by decide) rfl rfl (Nat.le_of_ble_eq_true rfl) (x_reqF hf) x_out_n ?_
    refine G_st (L := 89) (k := 0) (110, [some (.ref 1), some (.ref 4), some (.int v), some (.int n), some (.int w)], [], qS sw gc (x_R I a b c f e) J) (q_hn _ _ _ _) rfl ?_
    exact x_lF110_4 hf
theorem x_lF88_4 {d : Nat} {sw : Bool} {gc : Nat} {I : Nat → Nat → Int32} {J : Nat → Nat → Int64} {a b c f e : Int32} {v n w : Int32} (hf : ¬ f = 0) : G (d + 7) 32 (88, [some (.ref 1), some (.ref 4), some (.int v), some (.int n), some (.int w)], [], qS sw gc (x_R I a b c f e) J) none (qS sw gc (x_R I a b c f e) J) := by
  refine G_st (L := 89) (k := 1) (89, [some (.ref 1), some (.ref 4), some (.int v), some (.int n), some (.int w)], [.ref 1], qS sw gc (x_R I a b c f e) J) (q_hn _ _ _ _) rfl ?_
  refine G_callV (b := 1) (ci := 3) (as := []) (rest := []) rfl rfl rfl (q_lt (by decide)) (by decide) rfl rfl (Nat.le_of_ble_eq_true rfl) (x_readTokenF hf) x_out_n ?_
  refine G_st (L := 89) (k := 0) (92, [some (.ref 1), some (.ref 4), some (.int v), some (.int n), some (.int w)], [], qS sw gc (x_R I a b c f e) J) (q_hn _ _ _ _) rfl ?_
  exact x_lF92_4 hf
theorem x_lF73_4 {d : Nat} {sw : Bool} {gc : Nat} {I : Nat → Nat → Int32} {J : Nat → Nat → Int64} {a b c f e : Int32} {v n w : Int32} (hf : ¬ f = 0) : G (d + 7) 32 (73, [some (.ref 1), some (.ref 4), some (.int v), some (.int n), some (.int w)], [], qS sw gc (x_R I a b c f e) J) none (qS sw gc (x_R I a b c f e) J) := by
  refine G_st (L := 89) (k := 2) (75, [some (.ref 1), some (.ref 4), some (.int v), some (.int n), some (.int w)], [.int 4, .int v], qS sw gc (x_R I a b c f e) J) (q_hn _ _ _ _) rfl ?_
  refine G_icmp_ne 126 rfl rfl (fun h1 => ?_) (fun h1 => ?_)
  · skip
    exact x_lF126_4 hf
  · skip
    refine G_st (L := 89) (k := 3) (81, [some (.ref 1), some (.ref 4), some (.int v), some (.int n), some (.int w)], [.int n, .ref 4, .ref 1], qS sw gc (x_R I a b c f e) J) (q_hn _ _ _ _) rfl ?_
    refine G_callV (b := 4) (ci := 2) (as := [.int n]) (rest := [.ref 1]) rfl rfl rfl (q_lt (by decide)) (by decide) rfl rfl (Nat.le_of_ble_eq_true rfl) m_above4 x_out_n ?_
    refine G_st (L := 89) (k := 1) (85, [some (.ref 1), some (.ref 4), some (.int v), some (.int n), some (.int w)], [.int 5, .int (f_ab4 (x_R I a b c f e) n), .ref 1], qS sw gc (x_R I a b c f e) J) (q_hn _ _ _ _) rfl ?_
    refine G_callV (b := 1) (ci := 3) (as := [.int (f_ab4 (x_R I a b c f e) n), .int 5]) (rest := []) rfl rfl rfl (q_lt (by decide)) (by decide) rfl rfl (Nat.le_of_ble_eq_true rfl) (x_reqF hf) x_out_n ?_
    refine G_st (L := 89) (k := 0) (88, [some (.ref 1), some (.ref 4), some (.int v), some (.int n), some (.int w)], [], qS sw gc (x_R I a b c f e) J) (q_hn _ _ _ _) rfl ?_
    exact x_lF88_4 hf
theorem x_lF55_4 {d : Nat} {sw : Bool} {gc : Nat} {I : Nat → Nat → Int32} {J : Nat → Nat → Int64} {a b c f e : Int32} {v : Int32} (hf : ¬ f = 0) : G (d + 7) 32 (55, [some (.ref 1), some (.ref 4), some (.int v), none, none], [], qS sw gc (x_R I a b c f e) J) none (qS sw gc (x_R I a b c f e) J) := by
  refine G_st (L := 89) (k := 6) (63, [some (.ref 1), some (.ref 4), some (.int v), some (.int c), none], [.int c, .int v, .ref 1], qS sw gc (x_R I a b c f e) J) (q_hn _ _ _ _) rfl ?_
  refine G_callS (as := [.int v, .int c]) (rest := [.ref 1]) rfl rfl rfl (Nat.le_of_ble_eq_true rfl) m_inb x_out_n ?_
  refine G_st (L := 89) (k := 1) (67, [some (.ref 1), some (.ref 4), some (.int v), some (.int c), none], [.int 3, .int (f_inb v c), .ref 1], qS sw gc (x_R I a b c f e) J) (q_hn _ _ _ _) rfl ?_
  refine G_callV (b := 1) (ci := 3) (as := [.int (f_inb v c), .int 3]) (rest := []) rfl rfl rfl (q_lt (by decide)) (by decide) rfl rfl (Nat.le_of_ble_eq_true rfl) (x_reqF hf) x_out_n ?_
  refine G_st (L := 89) (k := 2) (73, [some (.ref 1), some (.ref 4), some (.int v), some (.int c), some (.int 0)], [], qS sw gc (x_R I a b c f e) J) (q_hn _ _ _ _) rfl ?_
  exact x_lF73_4 hf
theorem x_lF37_4 {d : Nat} {sw : Bool} {gc : Nat} {I : Nat → Nat → Int32} {J : Nat → Nat → Int64} {a b c f e : Int32} {v : Int32} (hf : ¬ f = 0) : G (d + 7) 32 (37, [some (.ref 1), some (.ref 4), some (.int v), none, none], [], qS sw gc (x_R I a b c f e) J) none (qS sw gc (x_R I a b c f e) J) := by
  refine G_st (L := 89) (k := 4) (43, [some (.ref 1), some (.ref 4), some (.int v), none, none], [.int 2, .int b, .ref 1], qS sw gc (x_R I a b c f e) J) (q_hn _ _ _ _) rfl ?_
  refine G_icmp_ne 50 rfl rfl (fun h1 => ?_) (fun h1 => ?_)
  · skip
    refine G_st (L := 89) (k := 2) (52, [some (.ref 1), some (.ref 4), some (.int v), none, none], [.int 2, .int 0, .ref 1], qS sw gc (x_R I a b c f e) J) (q_hn _ _ _ _) rfl ?_
    refine G_callV (b := 1) (ci := 3) (as := [.int 0, .int 2]) (rest := []) rfl rfl rfl (q_lt (by decide)) (by decide) rfl rfl (Nat.le_of_ble_eq_true rfl) (x_reqF hf) x_out_n ?_
    refine G_st (L := 89) (k := 0) (55, [some (.ref 1), some (.ref 4), some (.int v), none, none], [], qS sw gc (x_R I a b c f e) J) (q_hn _ _ _ _) rfl ?_
    exact x_lF55_4 hf
  · skip
    refine G_st (L := 89) (k := 3) (52, [some (.ref 1), some (.ref 4), some (.int v), none, none], [.int 2, .int 1, .ref 1], qS sw gc (x_R I a b c f e) J) (q_hn _ _ _ _) rfl ?_
    refine G_callV (b := 1) (ci := 3) (as := [.int 1, .int 2]) (rest := []) rfl rfl rfl (q_lt (by decide)) (by decide) rfl rfl (Nat.le_of_ble_eq_true rfl) (x_reqF hf) x_out_n ?_
    refine G_st (L := 89) (k := 0) (55, [some (.ref 1), some (.ref 4), some (.int v), none, none], [], qS sw gc (x_R I a b c f e) J) (q_hn _ _ _ _) rfl ?_
    exact x_lF55_4 hf
theorem x_lF33_4 {d : Nat} {sw : Bool} {gc : Nat} {I : Nat → Nat → Int32} {J : Nat → Nat → Int64} {a b c f e : Int32} {v : Int32} (hf : ¬ f = 0) : G (d + 7) 32 (33, [some (.ref 1), some (.ref 4), some (.int v), none, none], [], qS sw gc (x_R I a b c f e) J) none (qS sw gc (x_R I a b c f e) J) := by
  refine G_st (L := 89) (k := 1) (34, [some (.ref 1), some (.ref 4), some (.int v), none, none], [.ref 1], qS sw gc (x_R I a b c f e) J) (q_hn _ _ _ _) rfl ?_
  refine G_callV (b := 1) (ci := 3) (as := []) (rest := []) rfl rfl rfl (q_lt (by decide)) (by decide) rfl rfl (Nat.le_of_ble_eq_true rfl) (x_readTokenF hf) x_out_n ?_
  refine G_st (L := 89) (k := 0) (37, [some (.ref 1), some (.ref 4), some (.int v), none, none], [], qS sw gc (x_R I a b c f e) J) (q_hn _ _ _ _) rfl ?_
  exact x_lF37_4 hf
theorem x_lF18_4 {d : Nat} {sw : Bool} {gc : Nat} {I : Nat → Nat → Int32} {J : Nat → Nat → Int64} {a b c f e : Int32} (hf : ¬ f = 0) : G (d + 7) 32 (18, [some (.ref 1), some (.ref 4), none, none, none], [], qS sw gc (x_R I a b c f e) J) none (qS sw gc (x_R I a b c f e) J) := by
  refine G_st (L := 89) (k := 6) (26, [some (.ref 1), some (.ref 4), some (.int c), none, none], [.int c, .ref 4, .ref 1], qS sw gc (x_R I a b c f e) J) (q_hn _ _ _ _) rfl ?_
  refine G_callV (b := 4) (ci := 2) (as := [.int c]) (rest := [.ref 1]) rfl rfl rfl (q_lt (by decide)) (by decide) rfl rfl (Nat.le_of_ble_eq_true rfl) m_mayTell4 x_out_n ?_
  refine G_st (L := 89) (k := 1) (30, [some (.ref 1), some (.ref 4), some (.int c), none, none], [.int 4, .int (f_mt4 (x_R I a b c f e) c), .ref 1], qS sw gc (x_R I a b c f e) J) (q_hn _ _ _ _) rfl ?_
  refine G_callV (b := 1) (ci := 3) (as := [.int (f_mt4 (x_R I a b c f e) c), .int 4]) (rest := []) rfl rfl rfl (q_lt (by decide)) (by decide) rfl rfl (Nat.le_of_ble_eq_true rfl) (x_reqF hf) x_out_n ?_
  refine G_st (L := 89) (k := 0) (33, [some (.ref 1), some (.ref 4), some (.int c), none, none], [], qS sw gc (x_R I a b c f e) J) (q_hn _ _ _ _) rfl ?_
  exact x_lF33_4 hf
theorem x_lA1_4 {d : Nat} {sw : Bool} {gc : Nat} {I : Nat → Nat → Int32} {J : Nat → Nat → Int64} {a k v e : Int32} (hk : ¬ k = 1) : G (d + 7) 32 (0, [some (.ref 1), some (.ref 4), none, none, none], [], qS sw gc (x_R I a k v 0 e) J) none (qS sw gc (x_R I a k v 2 e) J) := by
  refine G_st (L := 89) (k := 4) (6, [some (.ref 1), some (.ref 4), none, none, none], [.int 1, .int k, .ref 1], qS sw gc (x_R I a k v 0 e) J) (q_hn _ _ _ _) rfl ?_
  refine G_icmp_ne 13 rfl rfl (fun _ => ?_) (fun h9 => absurd h9 hk)
  refine G_st (L := 89) (k := 2) (15, [some (.ref 1), some (.ref 4), none, none, none], [.int 2, .int 0, .ref 1], qS sw gc (x_R I a k v 0 e) J) (q_hn _ _ _ _) rfl ?_
  refine G_callV (b := 1) (ci := 3) (as := [.int 0, .int 2]) (rest := []) rfl rfl rfl (q_lt (by decide)) (by decide) rfl rfl (Nat.le_of_ble_eq_true rfl) x_req0 x_out_n ?_
  refine G_st (L := 89) (k := 0) (18, [some (.ref 1), some (.ref 4), none, none, none], [], qS sw gc (x_R I a k v 2 e) J) (q_hn _ _ _ _) rfl ?_
  exact x_lF18_4 (by decide)
theorem x_lA2_4 {d : Nat} {sw : Bool} {gc : Nat} {I : Nat → Nat → Int32} {J : Nat → Nat → Int64} {a v e : Int32} (hm : f_mt4 I v = 0) : G (d + 7) 32 (0, [some (.ref 1), some (.ref 4), none, none, none], [], qS sw gc (x_R I a 1 v 0 e) J) none (qS sw gc (x_R I a 1 v 4 e) J) := by
  refine G_st (L := 89) (k := 4) (6, [some (.ref 1), some (.ref 4), none, none, none], [.int 1, .int 1, .ref 1], qS sw gc (x_R I a 1 v 0 e) J) (q_hn _ _ _ _) rfl ?_
  refine G_icmp_ne 13 rfl rfl (fun h9 => absurd h9 (by decide)) (fun _ => ?_)
  refine G_st (L := 89) (k := 3) (15, [some (.ref 1), some (.ref 4), none, none, none], [.int 2, .int 1, .ref 1], qS sw gc (x_R I a 1 v 0 e) J) (q_hn _ _ _ _) rfl ?_
  refine G_callV (b := 1) (ci := 3) (as := [.int 1, .int 2]) (rest := []) rfl rfl rfl (q_lt (by decide)) (by decide) rfl rfl (Nat.le_of_ble_eq_true rfl) x_req1 x_out_n ?_
  refine G_st (L := 89) (k := 6) (26, [some (.ref 1), some (.ref 4), some (.int v), none, none], [.int v, .ref 4, .ref 1], qS sw gc (x_R I a 1 v 0 e) J) (q_hn _ _ _ _) rfl ?_
  refine G_callV (b := 4) (ci := 2) (as := [.int v]) (rest := [.ref 1]) rfl rfl rfl (q_lt (by decide)) (by decide) rfl rfl (Nat.le_of_ble_eq_true rfl) (GM_r (r2 := 0) m_mayTell4 (f_mtR4.trans hm)) x_out_n ?_
  refine G_st (L := 89) (k := 1) (30, [some (.ref 1), some (.ref 4), some (.int v), none, none], [.int 4, .int 0, .ref 1], qS sw gc (x_R I a 1 v 0 e) J) (q_hn _ _ _ _) rfl ?_
  refine G_callV (b := 1) (ci := 3) (as := [.int 0, .int 4]) (rest := []) rfl rfl rfl (q_lt (by decide)) (by decide) rfl rfl (Nat.le_of_ble_eq_true rfl) x_req0 x_out_n ?_
  refine G_st (L := 89) (k := 0) (33, [some (.ref 1), some (.ref 4), some (.int v), none, none], [], qS sw gc (x_R I a 1 v 4 e) J) (q_hn _ _ _ _) rfl ?_
  exact x_lF33_4 (by decide)
theorem x_lA3_4 {d : Nat} {sw : Bool} {gc : Nat} {I : Nat → Nat → Int32} {J : Nat → Nat → Int64} {Iz : Nat → Nat → Int32} {a v e : Int32} (hm : f_mt4 I v = 1) (H : G (d + 7) 32 (33, [some (.ref 1), some (.ref 4), some (.int v), none, none], [], qS sw gc (x_R I a 1 v 0 e) J) none (qS sw gc Iz J)) : G (d + 7) 32 (0, [some (.ref 1), some (.ref 4), none, none, none], [], qS sw gc (x_R I a 1 v 0 e) J) none (qS sw gc Iz J) := by
  refine G_st (L := 89) (k := 4) (6, [some (.ref 1), some (.ref 4), none, none, none], [.int 1, .int 1, .ref 1], qS sw gc (x_R I a 1 v 0 e) J) (q_hn _ _ _ _) rfl ?_
  refine G_icmp_ne 13 rfl rfl (fun h9 => absurd h9 (by decide)) (fun _ => ?_)
  refine G_st (L := 89) (k := 3) (15, [some (.ref 1), some (.ref 4), none, none, none], [.int 2, .int 1, .ref 1], qS sw gc (x_R I a 1 v 0 e) J) (q_hn _ _ _ _) rfl ?_
  refine G_callV (b := 1) (ci := 3) (as := [.int 1, .int 2]) (rest := []) rfl rfl rfl (q_lt (by decide)) (by decide) rfl rfl (Nat.le_of_ble_eq_true rfl) x_req1 x_out_n ?_
  refine G_st (L := 89) (k := 6) (26, [some (.ref 1), some (.ref 4), some (.int v), none, none], [.int v, .ref 4, .ref 1], qS sw gc (x_R I a 1 v 0 e) J) (q_hn _ _ _ _) rfl ?_
  refine G_callV (b := 4) (ci := 2) (as := [.int v]) (rest := [.ref 1]) rfl rfl rfl (q_lt (by decide)) (by decide) rfl rfl (Nat.le_of_ble_eq_true rfl) (GM_r (r2 := 1) m_mayTell4 (f_mtR4.trans hm)) x_out_n ?_
  refine G_st (L := 89) (k := 1) (30, [some (.ref 1), some (.ref 4), some (.int v), none, none], [.int 4, .int 1, .ref 1], qS sw gc (x_R I a 1 v 0 e) J) (q_hn _ _ _ _) rfl ?_
  refine G_callV (b := 1) (ci := 3) (as := [.int 1, .int 4]) (rest := []) rfl rfl rfl (q_lt (by decide)) (by decide) rfl rfl (Nat.le_of_ble_eq_true rfl) x_req1 x_out_n ?_
  refine G_st (L := 89) (k := 0) (33, [some (.ref 1), some (.ref 4), some (.int v), none, none], [], qS sw gc (x_R I a 1 v 0 e) J) (q_hn _ _ _ _) rfl ?_
  exact H
theorem x_lT33_4 {d : Nat} {sw : Bool} {gc : Nat} {I : Nat → Nat → Int32} {J : Nat → Nat → Int64} {Iz : Nat → Nat → Int32} {l : Nat} (hl : I 2 1 = nI l) (hl2 : l ≤ 200) {p q : Nat} (hp : p ≤ 200) (hq : t_q (x_T I) p = q) (hq4 : q ≤ 400) {b c e v : Int32} (H : G (d + 7) 32 (37, [some (.ref 1), some (.ref 4), some (.int v), none, none], [], qS sw gc (x_R I (nI (t_n (x_T I) q)) (nI (t_k (x_T I q))) (t_v (x_T I) q c) (t_e (x_T I) q) (nI q)) J) none (qS sw gc Iz J)) : G (d + 7) 32 (33, [some (.ref 1), some (.ref 4), some (.int v), none, none], [], qS sw gc (x_R I (nI p) b c 0 e) J) none (qS sw gc Iz J) := by
  refine G_st (L := 89) (k := 1) (34, [some (.ref 1), some (.ref 4), some (.int v), none, none], [.ref 1], qS sw gc (x_R I (nI p) b c 0 e) J) (q_hn _ _ _ _) rfl ?_
  refine G_callV (b := 1) (ci := 3) (as := []) (rest := []) rfl rfl rfl (q_lt (by decide)) (by decide) rfl rfl (Nat.le_of_ble_eq_true rfl) (x_readToken hl hl2 hp hq hq4) x_out_n ?_
  refine G_st (L := 89) (k := 0) (37, [some (.ref 1), some (.ref 4), some (.int v), none, none], [], qS sw gc (x_R I (nI (t_n (x_T I) q)) (nI (t_k (x_T I q))) (t_v (x_T I) q c) (t_e (x_T I) q) (nI q)) J) (q_hn _ _ _ _) rfl ?_
  exact H
theorem x_lT88_4 {d : Nat} {sw : Bool} {gc : Nat} {I : Nat → Nat → Int32} {J : Nat → Nat → Int64} {Iz : Nat → Nat → Int32} {l : Nat} (hl : I 2 1 = nI l) (hl2 : l ≤ 200) {p q : Nat} (hp : p ≤ 200) (hq : t_q (x_T I) p = q) (hq4 : q ≤ 400) {b c e v n w : Int32} (H : G (d + 7) 32 (92, [some (.ref 1), some (.ref 4), some (.int v), some (.int n), some (.int w)], [], qS sw gc (x_R I (nI (t_n (x_T I) q)) (nI (t_k (x_T I q))) (t_v (x_T I) q c) (t_e (x_T I) q) (nI q)) J) none (qS sw gc Iz J)) : G (d + 7) 32 (88, [some (.ref 1), some (.ref 4), some (.int v), some (.int n), some (.int w)], [], qS sw gc (x_R I (nI p) b c 0 e) J) none (qS sw gc Iz J) := by
  refine G_st (L := 89) (k := 1) (89, [some (.ref 1), some (.ref 4), some (.int v), some (.int n), some (.int w)], [.ref 1], qS sw gc (x_R I (nI p) b c 0 e) J) (q_hn _ _ _ _) rfl ?_
  refine G_callV (b := 1) (ci := 3) (as := []) (rest := []) rfl rfl rfl (q_lt (by decide)) (by decide) rfl rfl (Nat.le_of_ble_eq_true rfl) (x_readToken hl hl2 hp hq hq4) x_out_n ?_
  refine G_st (L := 89) (k := 0) (92, [some (.ref 1), some (.ref 4), some (.int v), some (.int n), some (.int w)], [], qS sw gc (x_R I (nI (t_n (x_T I) q)) (nI (t_k (x_T I q))) (t_v (x_T I) q c) (t_e (x_T I) q) (nI q)) J) (q_hn _ _ _ _) rfl ?_
  exact H
theorem x_lT126_4 {d : Nat} {sw : Bool} {gc : Nat} {I : Nat → Nat → Int32} {J : Nat → Nat → Int64} {Iz : Nat → Nat → Int32} {l : Nat} (hl : I 2 1 = nI l) (hl2 : l ≤ 200) {p q : Nat} (hp : p ≤ 200) (hq : t_q (x_T I) p = q) (hq4 : q ≤ 400) {b c e v n w : Int32} (H : G (d + 7) 32 (130, [some (.ref 1), some (.ref 4), some (.int v), some (.int n), some (.int w)], [], qS sw gc (x_R I (nI (t_n (x_T I) q)) (nI (t_k (x_T I q))) (t_v (x_T I) q c) (t_e (x_T I) q) (nI q)) J) none (qS sw gc Iz J)) : G (d + 7) 32 (126, [some (.ref 1), some (.ref 4), some (.int v), some (.int n), some (.int w)], [], qS sw gc (x_R I (nI p) b c 0 e) J) none (qS sw gc Iz J) := by
  refine G_st (L := 89) (k := 1) (127, [some (.ref 1), some (.ref 4), some (.int v), some (.int n), some (.int w)], [.ref 1], qS sw gc (x_R I (nI p) b c 0 e) J) (q_hn _ _ _ _) rfl ?_
  refine G_callV (b := 1) (ci := 3) (as := []) (rest := []) rfl rfl rfl (q_lt (by decide)) (by decide) rfl rfl (Nat.le_of_ble_eq_true rfl) (x_readToken hl hl2 hp hq hq4) x_out_n ?_
  refine G_st (L := 89) (k := 0) (130, [some (.ref 1), some (.ref 4), some (.int v), some (.int n), some (.int w)], [], qS sw gc (x_R I (nI (t_n (x_T I) q)) (nI (t_k (x_T I q))) (t_v (x_T I) q c) (t_e (x_T I) q) (nI q)) J) (q_hn _ _ _ _) rfl ?_
  exact H
theorem x_lB1_4 {d : Nat} {sw : Bool} {gc : Nat} {I : Nat → Nat → Int32} {J : Nat → Nat → Int64}  {a k n e v : Int32} (hk : ¬ k = 2) : G (d + 7) 32 (37, [some (.ref 1), some (.ref 4), some (.int v), none, none], [], qS sw gc (x_R I a k n 0 e) J) none (qS sw gc (x_R I a k n 2 e) J) := by
  refine G_st (L := 89) (k := 4) (43, [some (.ref 1), some (.ref 4), some (.int v), none, none], [.int 2, .int k, .ref 1], qS sw gc (x_R I a k n 0 e) J) (q_hn _ _ _ _) rfl ?_
  refine G_icmp_ne 50 rfl rfl (fun _ => ?_) (fun h9 => absurd h9 hk)
  refine G_st (L := 89) (k := 2) (52, [some (.ref 1), some (.ref 4), some (.int v), none, none], [.int 2, .int 0, .ref 1], qS sw gc (x_R I a k n 0 e) J) (q_hn _ _ _ _) rfl ?_
  refine G_callV (b := 1) (ci := 3) (as := [.int 0, .int 2]) (rest := []) rfl rfl rfl (q_lt (by decide)) (by decide) rfl rfl (Nat.le_of_ble_eq_true rfl) x_req0 x_out_n ?_
  refine G_st (L := 89) (k := 0) (55, [some (.ref 1), some (.ref 4), some (.int v), none, none], [], qS sw gc (x_R I a k n 2 e) J) (q_hn _ _ _ _) rfl ?_
  exact x_lF55_4 (by decide)
theorem x_lB2_4 {d : Nat} {sw : Bool} {gc : Nat} {I : Nat → Nat → Int32} {J : Nat → Nat → Int64}  {a n e v : Int32} (hm : f_inb v n = 0) : G (d + 7) 32 (37, [some (.ref 1), some (.ref 4), some (.int v), none, none], [], qS sw gc (x_R I a 2 n 0 e) J) none (qS sw gc (x_R I a 2 n 3 e) J) := by
  refine G_st (L := 89) (k := 4) (43, [some (.ref 1), some (.ref 4), some (.int v), none, none], [.int 2, .int 2, .ref 1], qS sw gc (x_R I a 2 n 0 e) J) (q_hn _ _ _ _) rfl ?_
  refine G_icmp_ne 50 rfl rfl (fun h9 => absurd h9 (by decide)) (fun _ => ?_)
  refine G_st (L := 89) (k := 3) (52, [some (.ref 1), some (.ref 4), some (.int v), none, none], [.int 2, .int 1, .ref 1], qS sw gc (x_R I a 2 n 0 e) J) (q_hn _ _ _ _) rfl ?_
  refine G_callV (b := 1) (ci := 3) (as := [.int 1, .int 2]) (rest := []) rfl rfl rfl (q_lt (by decide)) (by decide) rfl rfl (Nat.le_of_ble_eq_true rfl) x_req1 x_out_n ?_
  refine G_st (L := 89) (k := 6) (63, [some (.ref 1), some (.ref 4), some (.int v), some (.int n), none], [.int n, .int v, .ref 1], qS sw gc (x_R I a 2 n 0 e) J) (q_hn _ _ _ _) rfl ?_
  refine G_callS (as := [.int v, .int n]) (rest := [.ref 1]) rfl rfl rfl (Nat.le_of_ble_eq_true rfl) (GM_r (r2 := 0) m_inb hm) x_out_n ?_
  refine G_st (L := 89) (k := 1) (67, [some (.ref 1), some (.ref 4), some (.int v), some (.int n), none], [.int 3, .int 0, .ref 1], qS sw gc (x_R I a 2 n 0 e) J) (q_hn _ _ _ _) rfl ?_
  refine G_callV (b := 1) (ci := 3) (as := [.int 0, .int 3]) (rest := []) rfl rfl rfl (q_lt (by decide)) (by decide) rfl rfl (Nat.le_of_ble_eq_true rfl) x_req0 x_out_n ?_
  refine G_st (L := 89) (k := 2) (73, [some (.ref 1), some (.ref 4), some (.int v), some (.int n), some (.int 0)], [], qS sw gc (x_R I a 2 n 3 e) J) (q_hn _ _ _ _) rfl ?_
  exact x_lF73_4 (by decide)
theorem x_lB3_4 {d : Nat} {sw : Bool} {gc : Nat} {I : Nat → Nat → Int32} {J : Nat → Nat → Int64} {Iz : Nat → Nat → Int32} {a n e v : Int32} (hm : f_inb v n = 1) (H : G (d + 7) 32 (73, [some (.ref 1), some (.ref 4), some (.int v), some (.int n), some (.int 0)], [], qS sw gc (x_R I a 2 n 0 e) J) none (qS sw gc Iz J)) : G (d + 7) 32 (37, [some (.ref 1), some (.ref 4), some (.int v), none, none], [], qS sw gc (x_R I a 2 n 0 e) J) none (qS sw gc Iz J) := by
  refine G_st (L := 89) (k := 4) (43, [some (.ref 1), some (.ref 4), some (.int v), none, none], [.int 2, .int 2, .ref 1], qS sw gc (x_R I a 2 n 0 e) J) (q_hn _ _ _ _) rfl ?_
  refine G_icmp_ne 50 rfl rfl (fun h9 => absurd h9 (by decide)) (fun _ => ?_)
  refine G_st (L := 89) (k := 3) (52, [some (.ref 1), some (.ref 4), some (.int v), none, none], [.int 2, .int 1, .ref 1], qS sw gc (x_R I a 2 n 0 e) J) (q_hn _ _ _ _) rfl ?_
  refine G_callV (b := 1) (ci := 3) (as := [.int 1, .int 2]) (rest := []) rfl rfl rfl (q_lt (by decide)) (by decide) rfl rfl (Nat.le_of_ble_eq_true rfl) x_req1 x_out_n ?_
  refine G_st (L := 89) (k := 6) (63, [some (.ref 1), some (.ref 4), some (.int v), some (.int n), none], [.int n, .int v, .ref 1], qS sw gc (x_R I a 2 n 0 e) J) (q_hn _ _ _ _) rfl ?_
  refine G_callS (as := [.int v, .int n]) (rest := [.ref 1]) rfl rfl rfl (Nat.le_of_ble_eq_true rfl) (GM_r (r2 := 1) m_inb hm) x_out_n ?_
  refine G_st (L := 89) (k := 1) (67, [some (.ref 1), some (.ref 4), some (.int v), some (.int n), none], [.int 3, .int 1, .ref 1], qS sw gc (x_R I a 2 n 0 e) J) (q_hn _ _ _ _) rfl ?_
  refine G_callV (b := 1) (ci := 3) (as := [.int 1, .int 3]) (rest := []) rfl rfl rfl (q_lt (by decide)) (by decide) rfl rfl (Nat.le_of_ble_eq_true rfl) x_req1 x_out_n ?_
  refine G_st (L := 89) (k := 2) (73, [some (.ref 1), some (.ref 4), some (.int v), some (.int n), some (.int 0)], [], qS sw gc (x_R I a 2 n 0 e) J) (q_hn _ _ _ _) rfl ?_
  exact H
theorem x_lC1_4 {d : Nat} {sw : Bool} {gc : Nat} {I : Nat → Nat → Int32} {J : Nat → Nat → Int64} {Iz : Nat → Nat → Int32} {a k c e v n w : Int32} (hv : ¬ v = 4) (H : G (d + 7) 32 (126, [some (.ref 1), some (.ref 4), some (.int v), some (.int n), some (.int w)], [], qS sw gc (x_R I a k c 0 e) J) none (qS sw gc Iz J)) : G (d + 7) 32 (73, [some (.ref 1), some (.ref 4), some (.int v), some (.int n), some (.int w)], [], qS sw gc (x_R I a k c 0 e) J) none (qS sw gc Iz J) := by
  refine G_st (L := 89) (k := 2) (75, [some (.ref 1), some (.ref 4), some (.int v), some (.int n), some (.int w)], [.int 4, .int v], qS sw gc (x_R I a k c 0 e) J) (q_hn _ _ _ _) rfl ?_
  refine G_icmp_ne 126 rfl rfl (fun _ => ?_) (fun h9 => absurd h9 hv)
  exact H
theorem x_lC2_4 {d : Nat} {sw : Bool} {gc : Nat} {I : Nat → Nat → Int32} {J : Nat → Nat → Int64}  {a k c e n w : Int32} (hm : f_ab4 I n = 0) : G (d + 7) 32 (73, [some (.ref 1), some (.ref 4), some (.int 4), some (.int n), some (.int w)], [], qS sw gc (x_R I a k c 0 e) J) none (qS sw gc (x_R I a k c 5 e) J) := by
  refine G_st (L := 89) (k := 2) (75, [some (.ref 1), some (.ref 4), some (.int 4), some (.int n), some (.int w)], [.int 4, .int 4], qS sw gc (x_R I a k c 0 e) J) (q_hn _ _ _ _) rfl ?_
  refine G_icmp_ne 126 rfl rfl (fun h9 => absurd h9 (by decide)) (fun _ => ?_)
  refine G_st (L := 89) (k := 3) (81, [some (.ref 1), some (.ref 4), some (.int 4), some (.int n), some (.int w)], [.int n, .ref 4, .ref 1], qS sw gc (x_R I a k c 0 e) J) (q_hn _ _ _ _) rfl ?_
  refine G_callV (b := 4) (ci := 2) (as := [.int n]) (rest := [.ref 1]) rfl rfl rfl (q_lt (by decide)) (by decide) rfl rfl (Nat.le_of_ble_eq_true rfl) (GM_r (r2 := 0) m_above4 (f_abR4.trans hm)) x_out_n ?_
  refine G_st (L := 89) (k := 1) (85, [some (.ref 1), some (.ref 4), some (.int 4), some (.int n), some (.int w)], [.int 5, .int 0, .ref 1], qS sw gc (x_R I a k c 0 e) J) (q_hn _ _ _ _) rfl ?_
  refine G_callV (b := 1) (ci := 3) (as := [.int 0, .int 5]) (rest := []) rfl rfl rfl (q_lt (by decide)) (by decide) rfl rfl (Nat.le_of_ble_eq_true rfl) x_req0 x_out_n ?_
  refine G_st (L := 89) (k := 0) (88, [some (.ref 1), some (.ref 4), some (.int 4), some (.int n), some (.int w)], [], qS sw gc (x_R I a k c 5 e) J) (q_hn _ _ _ _) rfl ?_
  exact x_lF88_4 (by decide)
theorem x_lC3_4 {d : Nat} {sw : Bool} {gc : Nat} {I : Nat → Nat → Int32} {J : Nat → Nat → Int64} {Iz : Nat → Nat → Int32} {a k c e n w : Int32} (hm : f_ab4 I n = 1) (H : G (d + 7) 32 (88, [some (.ref 1), some (.ref 4), some (.int 4), some (.int n), some (.int w)], [], qS sw gc (x_R I a k c 0 e) J) none (qS sw gc Iz J)) : G (d + 7) 32 (73, [some (.ref 1), some (.ref 4), some (.int 4), some (.int n), some (.int w)], [], qS sw gc (x_R I a k c 0 e) J) none (qS sw gc Iz J) := by
  refine G_st (L := 89) (k := 2) (75, [some (.ref 1), some (.ref 4), some (.int 4), some (.int n), some (.int w)], [.int 4, .int 4], qS sw gc (x_R I a k c 0 e) J) (q_hn _ _ _ _) rfl ?_
  refine G_icmp_ne 126 rfl rfl (fun h9 => absurd h9 (by decide)) (fun _ => ?_)
  refine G_st (L := 89) (k := 3) (81, [some (.ref 1), some (.ref 4), some (.int 4), some (.int n), some (.int w)], [.int n, .ref 4, .ref 1], qS sw gc (x_R I a k c 0 e) J) (q_hn _ _ _ _) rfl ?_
  refine G_callV (b := 4) (ci := 2) (as := [.int n]) (rest := [.ref 1]) rfl rfl rfl (q_lt (by decide)) (by decide) rfl rfl (Nat.le_of_ble_eq_true rfl) (GM_r (r2 := 1) m_above4 (f_abR4.trans hm)) x_out_n ?_
  refine G_st (L := 89) (k := 1) (85, [some (.ref 1), some (.ref 4), some (.int 4), some (.int n), some (.int w)], [.int 5, .int 1, .ref 1], qS sw gc (x_R I a k c 0 e) J) (q_hn _ _ _ _) rfl ?_
  refine G_callV (b := 1) (ci := 3) (as := [.int 1, .int 5]) (rest := []) rfl rfl rfl (q_lt (by decide)) (by decide) rfl rfl (Nat.le_of_ble_eq_true rfl) x_req1 x_out_n ?_
  refine G_st (L := 89) (k := 0) (88, [some (.ref 1), some (.ref 4), some (.int 4), some (.int n), some (.int w)], [], qS sw gc (x_R I a k c 0 e) J) (q_hn _ _ _ _) rfl ?_
  exact H
theorem x_lD1_4 {d : Nat} {sw : Bool} {gc : Nat} {I : Nat → Nat → Int32} {J : Nat → Nat → Int64}  {a k c e v n w : Int32} (hk : ¬ k = 2) : G (d + 7) 32 (92, [some (.ref 1), some (.ref 4), some (.int v), some (.int n), some (.int w)], [], qS sw gc (x_R I a k c 0 e) J) none (qS sw gc (x_R I a k c 2 e) J) := by
  refine G_st (L := 89) (k := 4) (98, [some (.ref 1), some (.ref 4), some (.int v), some (.int n), some (.int w)], [.int 2, .int k, .ref 1], qS sw gc (x_R I a k c 0 e) J) (q_hn _ _ _ _) rfl ?_
  refine G_icmp_ne 105 rfl rfl (fun _ => ?_) (fun h9 => absurd h9 hk)
  refine G_st (L := 89) (k := 2) (107, [some (.ref 1), some (.ref 4), some (.int v), some (.int n), some (.int w)], [.int 2, .int 0, .ref 1], qS sw gc (x_R I a k c 0 e) J) (q_hn _ _ _ _) rfl ?_
  refine G_callV (b := 1) (ci := 3) (as := [.int 0, .int 2]) (rest := []) rfl rfl rfl (q_lt (by decide)) (by decide) rfl rfl (Nat.le_of_ble_eq_true rfl) x_req0 x_out_n ?_
  refine G_st (L := 89) (k := 0) (110, [some (.ref 1), some (.ref 4), some (.int v), some (.int n), some (.int w)], [], qS sw gc (x_R I a k c 2 e) J) (q_hn _ _ _ _) rfl ?_
  exact x_lF110_4 (by decide)
theorem x_lD2_4 {d : Nat} {sw : Bool} {gc : Nat} {I : Nat → Nat → Int32} {J : Nat → Nat → Int64}  {a c e v n w : Int32} (hm : f_isPoundage c = 0) : G (d + 7) 32 (92, [some (.ref 1), some (.ref 4), some (.int v), some (.int n), some (.int w)], [], qS sw gc (x_R I a 2 c 0 e) J) none (qS sw gc (x_R I a 2 c 3 e) J) := by
  refine G_st (L := 89) (k := 4) (98, [some (.ref 1), some (.ref 4), some (.int v), some (.int n), some (.int w)], [.int 2, .int 2, .ref 1], qS sw gc (x_R I a 2 c 0 e) J) (q_hn _ _ _ _) rfl ?_
  refine G_icmp_ne 105 rfl rfl (fun h9 => absurd h9 (by decide)) (fun _ => ?_)
  refine G_st (L := 89) (k := 3) (107, [some (.ref 1), some (.ref 4), some (.int v), some (.int n), some (.int w)], [.int 2, .int 1, .ref 1], qS sw gc (x_R I a 2 c 0 e) J) (q_hn _ _ _ _) rfl ?_
  refine G_callV (b := 1) (ci := 3) (as := [.int 1, .int 2]) (rest := []) rfl rfl rfl (q_lt (by decide)) (by decide) rfl rfl (Nat.le_of_ble_eq_true rfl) x_req1 x_out_n ?_
  refine G_st (L := 89) (k := 5) (119, [some (.ref 1), some (.ref 4), some (.int v), some (.int n), some (.int c)], [.int c, .ref 1], qS sw gc (x_R I a 2 c 0 e) J) (q_hn _ _ _ _) rfl ?_
  refine G_callS (as := [.int c]) (rest := [.ref 1]) rfl rfl rfl (Nat.le_of_ble_eq_true rfl) (GM_r (r2 := 0) (m_isPoundage _) hm) x_out_n ?_
  refine G_st (L := 89) (k := 1) (123, [some (.ref 1), some (.ref 4), some (.int v), some (.int n), some (.int c)], [.int 3, .int 0, .ref 1], qS sw gc (x_R I a 2 c 0 e) J) (q_hn _ _ _ _) rfl ?_
  refine G_callV (b := 1) (ci := 3) (as := [.int 0, .int 3]) (rest := []) rfl rfl rfl (q_lt (by decide)) (by decide) rfl rfl (Nat.le_of_ble_eq_true rfl) x_req0 x_out_n ?_
  refine G_st (L := 89) (k := 0) (126, [some (.ref 1), some (.ref 4), some (.int v), some (.int n), some (.int c)], [], qS sw gc (x_R I a 2 c 3 e) J) (q_hn _ _ _ _) rfl ?_
  exact x_lF126_4 (by decide)
theorem x_lD3_4 {d : Nat} {sw : Bool} {gc : Nat} {I : Nat → Nat → Int32} {J : Nat → Nat → Int64} {Iz : Nat → Nat → Int32} {a c e v n w : Int32} (hm : f_isPoundage c = 1) (H : G (d + 7) 32 (126, [some (.ref 1), some (.ref 4), some (.int v), some (.int n), some (.int c)], [], qS sw gc (x_R I a 2 c 0 e) J) none (qS sw gc Iz J)) : G (d + 7) 32 (92, [some (.ref 1), some (.ref 4), some (.int v), some (.int n), some (.int w)], [], qS sw gc (x_R I a 2 c 0 e) J) none (qS sw gc Iz J) := by
  refine G_st (L := 89) (k := 4) (98, [some (.ref 1), some (.ref 4), some (.int v), some (.int n), some (.int w)], [.int 2, .int 2, .ref 1], qS sw gc (x_R I a 2 c 0 e) J) (q_hn _ _ _ _) rfl ?_
  refine G_icmp_ne 105 rfl rfl (fun h9 => absurd h9 (by decide)) (fun _ => ?_)
  refine G_st (L := 89) (k := 3) (107, [some (.ref 1), some (.ref 4), some (.int v), some (.int n), some (.int w)], [.int 2, .int 1, .ref 1], qS sw gc (x_R I a 2 c 0 e) J) (q_hn _ _ _ _) rfl ?_
  refine G_callV (b := 1) (ci := 3) (as := [.int 1, .int 2]) (rest := []) rfl rfl rfl (q_lt (by decide)) (by decide) rfl rfl (Nat.le_of_ble_eq_true rfl) x_req1 x_out_n ?_
  refine G_st (L := 89) (k := 5) (119, [some (.ref 1), some (.ref 4), some (.int v), some (.int n), some (.int c)], [.int c, .ref 1], qS sw gc (x_R I a 2 c 0 e) J) (q_hn _ _ _ _) rfl ?_
  refine G_callS (as := [.int c]) (rest := [.ref 1]) rfl rfl rfl (Nat.le_of_ble_eq_true rfl) (GM_r (r2 := 1) (m_isPoundage _) hm) x_out_n ?_
  refine G_st (L := 89) (k := 1) (123, [some (.ref 1), some (.ref 4), some (.int v), some (.int n), some (.int c)], [.int 3, .int 1, .ref 1], qS sw gc (x_R I a 2 c 0 e) J) (q_hn _ _ _ _) rfl ?_
  refine G_callV (b := 1) (ci := 3) (as := [.int 1, .int 3]) (rest := []) rfl rfl rfl (q_lt (by decide)) (by decide) rfl rfl (Nat.le_of_ble_eq_true rfl) x_req1 x_out_n ?_
  refine G_st (L := 89) (k := 0) (126, [some (.ref 1), some (.ref 4), some (.int v), some (.int n), some (.int c)], [], qS sw gc (x_R I a 2 c 0 e) J) (q_hn _ _ _ _) rfl ?_
  exact H
theorem x_lE1_4 {d : Nat} {sw : Bool} {gc : Nat} {I : Nat → Nat → Int32} {J : Nat → Nat → Int64}  {a k c e v n w : Int32} (hk : ¬ k = 3) : G (d + 7) 32 (130, [some (.ref 1), some (.ref 4), some (.int v), some (.int n), some (.int w)], [], qS sw gc (x_R I a k c 0 e) J) none (qS sw gc (x_R I a k c 2 e) J) := by
  refine G_st (L := 89) (k := 4) (136, [some (.ref 1), some (.ref 4), some (.int v), some (.int n), some (.int w)], [.int 3, .int k, .ref 1], qS sw gc (x_R I a k c 0 e) J) (q_hn _ _ _ _) rfl ?_
  refine G_icmp_ne 143 rfl rfl (fun _ => ?_) (fun h9 => absurd h9 hk)
  refine G_st (L := 89) (k := 2) (145, [some (.ref 1), some (.ref 4), some (.int v), some (.int n), some (.int w)], [.int 2, .int 0, .ref 1], qS sw gc (x_R I a k c 0 e) J) (q_hn _ _ _ _) rfl ?_
  refine G_callV (b := 1) (ci := 3) (as := [.int 0, .int 2]) (rest := []) rfl rfl rfl (q_lt (by decide)) (by decide) rfl rfl (Nat.le_of_ble_eq_true rfl) x_req0 x_out_n ?_
  refine G_st (L := 89) (k := 0) (148, [some (.ref 1), some (.ref 4), some (.int v), some (.int n), some (.int w)], [], qS sw gc (x_R I a k c 2 e) J) (q_hn _ _ _ _) rfl ?_
  exact x_lF148_4 (by decide)
theorem x_lE2_4 {d : Nat} {sw : Bool} {gc : Nat} {I : Nat → Nat → Int32} {J : Nat → Nat → Int64} {I1 : Nat → Nat → Int32} {a c e v n w : Int32} (H : GM (d + 6) 26 [.ref 4, .int v, .int n, .int w] (qS sw gc (x_R I a 3 c 0 e) J) none (qS sw gc I1 J)) : G (d + 7) 32 (130, [some (.ref 1), some (.ref 4), some (.int v), some (.int n), some (.int w)], [], qS sw gc (x_R I a 3 c 0 e) J) none (qS sw gc I1 J) := by
  refine G_st (L := 89) (k := 4) (136, [some (.ref 1), some (.ref 4), some (.int v), some (.int n), some (.int w)], [.int 3, .int 3, .ref 1], qS sw gc (x_R I a 3 c 0 e) J) (q_hn _ _ _ _) rfl ?_
  refine G_icmp_ne 143 rfl rfl (fun h9 => absurd h9 (by decide)) (fun _ => ?_)
  refine G_st (L := 89) (k := 3) (145, [some (.ref 1), some (.ref 4), some (.int v), some (.int n), some (.int w)], [.int 2, .int 1, .ref 1], qS sw gc (x_R I a 3 c 0 e) J) (q_hn _ _ _ _) rfl ?_
  refine G_callV (b := 1) (ci := 3) (as := [.int 1, .int 2]) (rest := []) rfl rfl rfl (q_lt (by decide)) (by decide) rfl rfl (Nat.le_of_ble_eq_true rfl) x_req1 x_out_n ?_
  refine G_st (L := 89) (k := 2) (152, [some (.ref 1), some (.ref 4), some (.int v), some (.int n), some (.int w)], [.int 0], qS sw gc (x_R I a 3 c 0 e) J) (q_hn _ _ _ _) rfl ?_
  refine G_if_ne 163 rfl rfl (fun h9 => absurd h9 (by decide)) (fun _ => ?_)
  refine G_st (L := 89) (k := 4) (160, [some (.ref 1), some (.ref 4), some (.int v), some (.int n), some (.int w)], [.int w, .int n, .int v, .ref 4], qS sw gc (x_R I a 3 c 0 e) J) (q_hn _ _ _ _) rfl ?_
  refine G_callV (b := 4) (ci := 2) (as := [.int v, .int n, .int w]) (rest := []) rfl rfl rfl (q_lt (by decide)) (by decide) rfl rfl (Nat.le_of_ble_eq_true rfl) H x_out_n ?_
  refine G_st (L := 89) (k := 0) (163, [some (.ref 1), some (.ref 4), some (.int v), some (.int n), some (.int w)], [], qS sw gc I1 J) (q_hn _ _ _ _) rfl ?_
  exact G_ret rfl rfl rfl rfl
theorem f_mtR9 {I : Nat → Nat → Int32} {a b c d e x : Int32} : f_mt9 (x_R I a b c d e) x = f_mt9 I x := by
  unfold f_mt9
  rw [x_R_un (by omega), x_R_un (by omega)]
theorem f_abR9 {I : Nat → Nat → Int32} {a b c d e x : Int32} : f_ab9 (x_R I a b c d e) x = f_ab9 I x := by
  unfold f_ab9
  rw [x_R_un (by omega), x_R_un (by omega)]
theorem x_lF148_9 {d : Nat} {sw : Bool} {gc : Nat} {I : Nat → Nat → Int32} {J : Nat → Nat → Int64} {a b c f e : Int32} {v n w : Int32} (hf : ¬ f = 0) : G (d + 7) 32 (148, [some (.ref 1), some (.ref 9), some (.int v), some (.int n), some (.int w)], [], qS sw gc (x_R I a b c f e) J) none (qS sw gc (x_R I a b c f e) J) := by
  refine G_st (L := 89) (k := 2) (152, [some (.ref 1), some (.ref 9), some (.int v), some (.int n), some (.int w)], [.int f], qS sw gc (x_R I a b c f e) J) (q_hn _ _ _ _) rfl ?_
  refine G_if_ne 163 rfl rfl (fun _ => ?_) (fun h9 => absurd h9 hf)
  exact G_ret rfl rfl rfl rfl
theorem x_lF130_9 {d : Nat} {sw : Bool} {gc : Nat} {I : Nat → Nat → Int32} {J : Nat → Nat → Int64} {a b c f e : Int32} {v n w : Int32} (hf : ¬ f = 0) : G (d + 7) 32 (130, [some (.ref 1), some (.ref 9), some (.int v), some (.int n), some (.int w)], [], qS sw gc (x_R I a b c f e) J) none (qS sw gc (x_R I a b c f e) J) := by
  refine G_st (L := 89) (k := 4) (136, [some (.ref 1), some (.ref 9), some (.int v), some (.int n), some (.int w)], [.int 3, .int b, .ref 1], qS sw gc (x_R I a b c f e) J) (q_hn _ _ _ _) rfl ?_
  refine G_icmp_ne 143 rfl rfl (fun h1 => ?_) (fun h1 => ?_)
  · skip
    refine G_st (L := 89) (k := 2) (145, [some (.ref 1), some (.ref 9), some (.int v), some (.int n), some (.int w)], [.int 2, .int 0, .ref 1], qS sw gc (x_R I a b c f e) J) (q_hn _ _ _ _) rfl ?_
    refine G_callV (b := 1) (ci := 3) (as := [.int 0, .int 2]) (rest := []) rfl rfl rfl (q_lt (by decide)) (by decide) rfl rfl (Nat.le_of_ble_eq_true rfl) (x_reqF hf) x_out_n ?_
    refine G_st (L := 89) (k := 0) (148, [some (.ref 1), some (.ref 9), some (.int v), some (.int n), some (.int w)], [], qS sw gc (x_R I a b c f e) J) (q_hn _ _ _ _) rfl ?_
    exact x_lF148_9 hf
  · skip
    refine G_st (L := 89) (k := 3) (145, [some (.ref 1), some (.ref 9), some (.int v), some (.int n), some (.int w)], [.int 2, .int 1, .ref 1], qS sw gc (x_R I a b c f e) J) (q_hn _ _ _ _) rfl ?_
    refine G_callV (b := 1) (ci := 3) (as := [.int 1, .int 2]) (rest := []) rfl rfl rfl (q_lt (by decide)) (by decide) rfl rfl (Nat.le_of_ble_eq_true rfl) (x_reqF hf) x_out_n ?_
    refine G_st (L := 89) (k := 0) (148, [some (.ref 1), some (.ref 9), some (.int v), some (.int n), some (.int w)], [], qS sw gc (x_R I a b c f e) J) (q_hn _ _ _ _) rfl ?_
    exact x_lF148_9 hf
theorem x_lF126_9 {d : Nat} {sw : Bool} {gc : Nat} {I : Nat → Nat → Int32} {J : Nat → Nat → Int64} {a b c f e : Int32} {v n w : Int32} (hf : ¬ f = 0) : G (d + 7) 32 (126, [some (.ref 1), some (.ref 9), some (.int v), some (.int n), some (.int w)], [], qS sw gc (x_R I a b c f e) J) none (qS sw gc (x_R I a b c f e) J) := by
  refine G_st (L := 89) (k := 1) (127, [some (.ref 1), some (.ref 9), some (.int v), some (.int n), some (.int w)], [.ref 1], qS sw gc (x_R I a b c f e) J) (q_hn _ _ _ _) rfl ?_
  refine G_callV (b := 1) (ci := 3) (as := []) (rest := []) rfl rfl rfl (q_lt (by decide)) (by decide) rfl rfl (Nat.le_of_ble_eq_true rfl) (x_readTokenF hf) x_out_n ?_
  refine G_st (L := 89) (k := 0) (130, [some (.ref 1), some (.ref 9), some (.int v), some (.int n), some (.int w)], [], qS sw gc (x_R I a b c f e) J) (q_hn _ _ _ _) rfl ?_
  exact x_lF130_9 hf
theorem x_lF110_9 {d : Nat} {sw : Bool} {gc : Nat} {I : Nat → Nat → Int32} {J : Nat → Nat → Int64} {a b c f e : Int32} {v n w : Int32} (hf : ¬ f = 0) : G (d + 7) 32 (110, [some (.ref 1), some (.ref 9), some (.int v), some (.int n), some (.int w)], [], qS sw gc (x_R I a b c f e) J) none (qS sw gc (x_R I a b c f e) J) := by
  refine G_st (L := 89) (k := 5) (119, [some (.ref 1), some (.ref 9), some (.int v), some (.int n), some (.int c)], [.int c, .ref 1], qS sw gc (x_R I a b c f e) J) (q_hn _ _ _ _) rfl ?_
  refine G_callS (as := [.int c]) (rest := [.ref 1]) rfl rfl rfl (Nat.le_of_ble_eq_true rfl) (m_isPoundage _) x_out_n ?_
  refine G_st (L := 89) (k := 1) (123, [some (.ref 1), some (.ref 9), some (.int v), some (.int n), some (.int c)], [.int 3, .int (f_isPoundage c), .ref 1], qS sw gc (x_R I a b c f e) J) (q_hn _ _ _ _) rfl ?_
  refine G_callV (b := 1) (ci := 3) (as := [.int (f_isPoundage c), .int 3]) (rest := []) rfl rfl rfl (q_lt (by decide)) (by decide) rfl rfl (Nat.le_of_ble_eq_true rfl) (x_reqF hf) x_out_n ?_
  refine G_st (L := 89) (k := 0) (126, [some (.ref 1), some (.ref 9), some (.int v), some (.int n), some (.int c)], [], qS sw gc (x_R I a b c f e) J) (q_hn _ _ _ _) rfl ?_
  exact x_lF126_9 hf
theorem x_lF92_9 {d : Nat} {sw : Bool} {gc : Nat} {I : Nat → Nat → Int32} {J : Nat → Nat → Int64} {a b c f e : Int32} {v n w : Int32} (hf : ¬ f = 0) : G (d + 7) 32 (92, [some (.ref 1), some (.ref 9), some (.int v), some (.int n), some (.int w)], [], qS sw gc (x_R I a b c f e) J) none (qS sw gc (x_R I a b c f e) J) := by
  refine G_st (L := 89) (k := 4) (98, [some (.ref 1), some (.ref 9), some (.int v), some (.int n), some (.int w)], [.int 2, .int b, .ref 1], qS sw gc (x_R I a b c f e) J) (q_hn _ _ _ _) rfl ?_
  refine G_icmp_ne 105 rfl rfl (fun h1 => ?_) (fun h1 => ?_)
  · skip
    refine G_st (L := 89) (k := 2) (107, [some (.ref 1), some (.ref 9), some (.int v), some (.int n), some (.int w)], [.int 2, .int 0, .ref 1], qS sw gc (x_R I a b c f e) J) (q_hn _ _ _ _) rfl ?_
    refine G_callV (b := 1) (ci := 3) (as := [.int 0, .int 2]) (rest := []) rfl rfl rfl (q_lt (by decide)) (by decide) rfl rfl (Nat.le_of_ble_eq_true rfl) (x_reqF hf) x_out_n ?_
    refine G_st (L := 89) (k := 0) (110, [some (.ref 1), some (.ref 9), some (.int v), some (.int n), some (.int w)], [], qS sw gc (x_R I a b c f e) J) (q_hn _ _ _ _) rfl ?_
    exact x_lF110_9 hf
  · skip
    refine G_st (L := 89) (k := 3) (107, [some (.ref 1), some (.ref 9), some (.int v), some (.int n), some (.int w)], [.int 2, .int 1, .ref 1], qS sw gc (x_R I a b c f e) J) (q_hn _ _ _ _) rfl ?_
    refine G_callV (b := 1) (ci := 3) (as := [.int 1, .int 2]) (rest := []) rfl rfl rfl (q_lt (by decide)) (by decide) rfl rfl (Nat.le_of_ble_eq_true rfl) (x_reqF hf) x_out_n ?_
    refine G_st (L := 89) (k := 0) (110, [some (.ref 1), some (.ref 9), some (.int v), some (.int n), some (.int w)], [], qS sw gc (x_R I a b c f e) J) (q_hn _ _ _ _) rfl ?_
    exact x_lF110_9 hf
theorem x_lF88_9 {d : Nat} {sw : Bool} {gc : Nat} {I : Nat → Nat → Int32} {J : Nat → Nat → Int64} {a b c f e : Int32} {v n w : Int32} (hf : ¬ f = 0) : G (d + 7) 32 (88, [some (.ref 1), some (.ref 9), some (.int v), some (.int n), some (.int w)], [], qS sw gc (x_R I a b c f e) J) none (qS sw gc (x_R I a b c f e) J) := by
  refine G_st (L := 89) (k := 1) (89, [some (.ref 1), some (.ref 9), some (.int v), some (.int n), some (.int w)], [.ref 1], qS sw gc (x_R I a b c f e) J) (q_hn _ _ _ _) rfl ?_
  refine G_callV (b := 1) (ci := 3) (as := []) (rest := []) rfl rfl rfl (q_lt (by decide)) (by decide) rfl rfl (Nat.le_of_ble_eq_true rfl) (x_readTokenF hf) x_out_n ?_
  refine G_st (L := 89) (k := 0) (92, [some (.ref 1), some (.ref 9), some (.int v), some (.int n), some (.int w)], [], qS sw gc (x_R I a b c f e) J) (q_hn _ _ _ _) rfl ?_
  exact x_lF92_9 hf
theorem x_lF73_9 {d : Nat} {sw : Bool} {gc : Nat} {I : Nat → Nat → Int32} {J : Nat → Nat → Int64} {a b c f e : Int32} {v n w : Int32} (hf : ¬ f = 0) : G (d + 7) 32 (73, [some (.ref 1), some (.ref 9), some (.int v), some (.int n), some (.int w)], [], qS sw gc (x_R I a b c f e) J) none (qS sw gc (x_R I a b c f e) J) := by
  refine G_st (L := 89) (k := 2) (75, [some (.ref 1), some (.ref 9), some (.int v), some (.int n), some (.int w)], [.int 4, .int v], qS sw gc (x_R I a b c f e) J) (q_hn _ _ _ _) rfl ?_
  refine G_icmp_ne 126 rfl rfl (fun h1 => ?_) (fun h1 => ?_)
  · skip
    exact x_lF126_9 hf
  · skip
    refine G_st (L := 89) (k := 3) (81, [some (.ref 1), some (.ref 9), some (.int v), some (.int n), some (.int w)], [.int n, .ref 9, .ref 1], qS sw gc (x_R I a b c f e) J) (q_hn _ _ _ _) rfl ?_
    refine G_callV (b := 9) (ci := 2) (as := [.int n]) (rest := [.ref 1]) rfl rfl rfl (q_lt (by decide)) (by decide) rfl rfl (Nat.le_of_ble_eq_true rfl) m_above9 x_out_n ?_
    refine G_st (L := 89) (k := 1) (85, [some (.ref 1), some (.ref 9), some (.int v), some (.int n), some (.int w)], [.int 5, .int (f_ab9 (x_R I a b c f e) n), .ref 1], qS sw gc (x_R I a b c f e) J) (q_hn _ _ _ _) rfl ?_
    refine G_callV (b := 1) (ci := 3) (as := [.int (f_ab9 (x_R I a b c f e) n), .int 5]) (rest := []) rfl rfl rfl (q_lt (by decide)) (by decide) rfl rfl (Nat.le_of_ble_eq_true rfl) (x_reqF hf) x_out_n ?_
    refine G_st (L := 89) (k := 0) (88, [some (.ref 1), some (.ref 9), some (.int v), some (.int n), some (.int w)], [], qS sw gc (x_R I a b c f e) J) (q_hn _ _ _ _) rfl ?_
    exact x_lF88_9 hf
theorem x_lF55_9 {d : Nat} {sw : Bool} {gc : Nat} {I : Nat → Nat → Int32} {J : Nat → Nat → Int64} {a b c f e : Int32} {v : Int32} (hf : ¬ f = 0) : G (d + 7) 32 (55, [some (.ref 1), some (.ref 9), some (.int v), none, none], [], qS sw gc (x_R I a b c f e) J) none (qS sw gc (x_R I a b c f e) J) := by
  refine G_st (L := 89) (k := 6) (63, [some (.ref 1), some (.ref 9), some (.int v), some (.int c), none], [.int c, .int v, .ref 1], qS sw gc (x_R I a b c f e) J) (q_hn _ _ _ _) rfl ?_
  refine G_callS (as := [.int v, .int c]) (rest := [.ref 1]) rfl rfl rfl (Nat.le_of_ble_eq_true rfl) m_inb x_out_n ?_
  refine G_st (L := 89) (k := 1) (67, [some (.ref 1), some (.ref 9), some (.int v), some (.int c), none], [.int 3, .int (f_inb v c), .ref 1], qS sw gc (x_R I a b c f e) J) (q_hn _ _ _ _) rfl ?_
  refine G_callV (b := 1) (ci := 3) (as := [.int (f_inb v c), .int 3]) (rest := []) rfl rfl rfl (q_lt (by decide)) (by decide) rfl rfl (Nat.le_of_ble_eq_true rfl) (x_reqF hf) x_out_n ?_
  refine G_st (L := 89) (k := 2) (73, [some (.ref 1), some (.ref 9), some (.int v), some (.int c), some (.int 0)], [], qS sw gc (x_R I a b c f e) J) (q_hn _ _ _ _) rfl ?_
  exact x_lF73_9 hf
theorem x_lF37_9 {d : Nat} {sw : Bool} {gc : Nat} {I : Nat → Nat → Int32} {J : Nat → Nat → Int64} {a b c f e : Int32} {v : Int32} (hf : ¬ f = 0) : G (d + 7) 32 (37, [some (.ref 1), some (.ref 9), some (.int v), none, none], [], qS sw gc (x_R I a b c f e) J) none (qS sw gc (x_R I a b c f e) J) := by
  refine G_st (L := 89) (k := 4) (43, [some (.ref 1), some (.ref 9), some (.int v), none, none], [.int 2, .int b, .ref 1], qS sw gc (x_R I a b c f e) J) (q_hn _ _ _ _) rfl ?_
  refine G_icmp_ne 50 rfl rfl (fun h1 => ?_) (fun h1 => ?_)
  · skip
    refine G_st (L := 89) (k := 2) (52, [some (.ref 1), some (.ref 9), some (.int v), none, none], [.int 2, .int 0, .ref 1], qS sw gc (x_R I a b c f e) J) (q_hn _ _ _ _) rfl ?_
    refine G_callV (b := 1) (ci := 3) (as := [.int 0, .int 2]) (rest := []) rfl rfl rfl (q_lt (by decide)) (by decide) rfl rfl (Nat.le_of_ble_eq_true rfl) (x_reqF hf) x_out_n ?_
    refine G_st (L := 89) (k := 0) (55, [some (.ref 1), some (.ref 9), some (.int v), none, none], [], qS sw gc (x_R I a b c f e) J) (q_hn _ _ _ _) rfl ?_
    exact x_lF55_9 hf
  · skip
    refine G_st (L := 89) (k := 3) (52, [some (.ref 1), some (.ref 9), some (.int v), none, none], [.int 2, .int 1, .ref 1], qS sw gc (x_R I a b c f e) J) (q_hn _ _ _ _) rfl ?_
    refine G_callV (b := 1) (ci := 3) (as := [.int 1, .int 2]) (rest := []) rfl rfl rfl (q_lt (by decide)) (by decide) rfl rfl (Nat.le_of_ble_eq_true rfl) (x_reqF hf) x_out_n ?_
    refine G_st (L := 89) (k := 0) (55, [some (.ref 1), some (.ref 9), some (.int v), none, none], [], qS sw gc (x_R I a b c f e) J) (q_hn _ _ _ _) rfl ?_
    exact x_lF55_9 hf
theorem x_lF33_9 {d : Nat} {sw : Bool} {gc : Nat} {I : Nat → Nat → Int32} {J : Nat → Nat → Int64} {a b c f e : Int32} {v : Int32} (hf : ¬ f = 0) : G (d + 7) 32 (33, [some (.ref 1), some (.ref 9), some (.int v), none, none], [], qS sw gc (x_R I a b c f e) J) none (qS sw gc (x_R I a b c f e) J) := by
  refine G_st (L := 89) (k := 1) (34, [some (.ref 1), some (.ref 9), some (.int v), none, none], [.ref 1], qS sw gc (x_R I a b c f e) J) (q_hn _ _ _ _) rfl ?_
  refine G_callV (b := 1) (ci := 3) (as := []) (rest := []) rfl rfl rfl (q_lt (by decide)) (by decide) rfl rfl (Nat.le_of_ble_eq_true rfl) (x_readTokenF hf) x_out_n ?_
  refine G_st (L := 89) (k := 0) (37, [some (.ref 1), some (.ref 9), some (.int v), none, none], [], qS sw gc (x_R I a b c f e) J) (q_hn _ _ _ _) rfl ?_
  exact x_lF37_9 hf
theorem x_lF18_9 {d : Nat} {sw : Bool} {gc : Nat} {I : Nat → Nat → Int32} {J : Nat → Nat → Int64} {a b c f e : Int32} (hf : ¬ f = 0) : G (d + 7) 32 (18, [some (.ref 1), some (.ref 9), none, none, none], [], qS sw gc (x_R I a b c f e) J) none (qS sw gc (x_R I a b c f e) J) := by
  refine G_st (L := 89) (k := 6) (26, [some (.ref 1), some (.ref 9), some (.int c), none, none], [.int c, .ref 9, .ref 1], qS sw gc (x_R I a b c f e) J) (q_hn _ _ _ _) rfl ?_
  refine G_callV (b := 9) (ci := 2) (as := [.int c]) (rest := [.ref 1]) rfl rfl rfl (q_lt (by decide)) (by decide) rfl rfl (Nat.le_of_ble_eq_true rfl) m_mayTell9 x_out_n ?_
  refine G_st (L := 89) (k := 1) (30, [some (.ref 1), some (.ref 9), some (.int c), none, none], [.int 4, .int (f_mt9 (x_R I a b c f e) c), .ref 1], qS sw gc (x_R I a b c f e) J) (q_hn _ _ _ _) rfl ?_
  refine G_callV (b := 1) (ci := 3) (as := [.int (f_mt9 (x_R I a b c f e) c), .int 4]) (rest := []) rfl rfl rfl (q_lt (by decide)) (by decide) rfl rfl (Nat.le_of_ble_eq_true rfl) (x_reqF hf) x_out_n ?_
  refine G_st (L := 89) (k := 0) (33, [some (.ref 1), some (.ref 9), some (.int c), none, none], [], qS sw gc (x_R I a b c f e) J) (q_hn _ _ _ _) rfl ?_
  exact x_lF33_9 hf
theorem x_lA1_9 {d : Nat} {sw : Bool} {gc : Nat} {I : Nat → Nat → Int32} {J : Nat → Nat → Int64} {a k v e : Int32} (hk : ¬ k = 1) : G (d + 7) 32 (0, [some (.ref 1), some (.ref 9), none, none, none], [], qS sw gc (x_R I a k v 0 e) J) none (qS sw gc (x_R I a k v 2 e) J) := by
  refine G_st (L := 89) (k := 4) (6, [some (.ref 1), some (.ref 9), none, none, none], [.int 1, .int k, .ref 1], qS sw gc (x_R I a k v 0 e) J) (q_hn _ _ _ _) rfl ?_
  refine G_icmp_ne 13 rfl rfl (fun _ => ?_) (fun h9 => absurd h9 hk)
  refine G_st (L := 89) (k := 2) (15, [some (.ref 1), some (.ref 9), none, none, none], [.int 2, .int 0, .ref 1], qS sw gc (x_R I a k v 0 e) J) (q_hn _ _ _ _) rfl ?_
  refine G_callV (b := 1) (ci := 3) (as := [.int 0, .int 2]) (rest := []) rfl rfl rfl (q_lt (by decide)) (by decide) rfl rfl (Nat.le_of_ble_eq_true rfl) x_req0 x_out_n ?_
  refine G_st (L := 89) (k := 0) (18, [some (.ref 1), some (.ref 9), none, none, none], [], qS sw gc (x_R I a k v 2 e) J) (q_hn _ _ _ _) rfl ?_
  exact x_lF18_9 (by decide)
theorem x_lA2_9 {d : Nat} {sw : Bool} {gc : Nat} {I : Nat → Nat → Int32} {J : Nat → Nat → Int64} {a v e : Int32} (hm : f_mt9 I v = 0) : G (d + 7) 32 (0, [some (.ref 1), some (.ref 9), none, none, none], [], qS sw gc (x_R I a 1 v 0 e) J) none (qS sw gc (x_R I a 1 v 4 e) J) := by
  refine G_st (L := 89) (k := 4) (6, [some (.ref 1), some (.ref 9), none, none, none], [.int 1, .int 1, .ref 1], qS sw gc (x_R I a 1 v 0 e) J) (q_hn _ _ _ _) rfl ?_
  refine G_icmp_ne 13 rfl rfl (fun h9 => absurd h9 (by decide)) (fun _ => ?_)
  refine G_st (L := 89) (k := 3) (15, [some (.ref 1), some (.ref 9), none, none, none], [.int 2, .int 1, .ref 1], qS sw gc (x_R I a 1 v 0 e) J) (q_hn _ _ _ _) rfl ?_
  refine G_callV (b := 1) (ci := 3) (as := [.int 1, .int 2]) (rest := []) rfl rfl rfl (q_lt (by decide)) (by decide) rfl rfl (Nat.le_of_ble_eq_true rfl) x_req1 x_out_n ?_
  refine G_st (L := 89) (k := 6) (26, [some (.ref 1), some (.ref 9), some (.int v), none, none], [.int v, .ref 9, .ref 1], qS sw gc (x_R I a 1 v 0 e) J) (q_hn _ _ _ _) rfl ?_
  refine G_callV (b := 9) (ci := 2) (as := [.int v]) (rest := [.ref 1]) rfl rfl rfl (q_lt (by decide)) (by decide) rfl rfl (Nat.le_of_ble_eq_true rfl) (GM_r (r2 := 0) m_mayTell9 (f_mtR9.trans hm)) x_out_n ?_
  refine G_st (L := 89) (k := 1) (30, [some (.ref 1), some (.ref 9), some (.int v), none, none], [.int 4, .int 0, .ref 1], qS sw gc (x_R I a 1 v 0 e) J) (q_hn _ _ _ _) rfl ?_
  refine G_callV (b := 1) (ci := 3) (as := [.int 0, .int 4]) (rest := []) rfl rfl rfl (q_lt (by decide)) (by decide) rfl rfl (Nat.le_of_ble_eq_true rfl) x_req0 x_out_n ?_
  refine G_st (L := 89) (k := 0) (33, [some (.ref 1), some (.ref 9), some (.int v), none, none], [], qS sw gc (x_R I a 1 v 4 e) J) (q_hn _ _ _ _) rfl ?_
  exact x_lF33_9 (by decide)
theorem x_lA3_9 {d : Nat} {sw : Bool} {gc : Nat} {I : Nat → Nat → Int32} {J : Nat → Nat → Int64} {Iz : Nat → Nat → Int32} {a v e : Int32} (hm : f_mt9 I v = 1) (H : G (d + 7) 32 (33, [some (.ref 1), some (.ref 9), some (.int v), none, none], [], qS sw gc (x_R I a 1 v 0 e) J) none (qS sw gc Iz J)) : G (d + 7) 32 (0, [some (.ref 1), some (.ref 9), none, none, none], [], qS sw gc (x_R I a 1 v 0 e) J) none (qS sw gc Iz J) := by
  refine G_st (L := 89) (k := 4) (6, [some (.ref 1), some (.ref 9), none, none, none], [.int 1, .int 1, .ref 1], qS sw gc (x_R I a 1 v 0 e) J) (q_hn _ _ _ _) rfl ?_
  refine G_icmp_ne 13 rfl rfl (fun h9 => absurd h9 (by decide)) (fun _ => ?_)
  refine G_st (L := 89) (k := 3) (15, [some (.ref 1), some (.ref 9), none, none, none], [.int 2, .int 1, .ref 1], qS sw gc (x_R I a 1 v 0 e) J) (q_hn _ _ _ _) rfl ?_
  refine G_callV (b := 1) (ci := 3) (as := [.int 1, .int 2]) (rest := []) rfl rfl rfl (q_lt (by decide)) (by decide) rfl rfl (Nat.le_of_ble_eq_true rfl) x_req1 x_out_n ?_
  refine G_st (L := 89) (k := 6) (26, [some (.ref 1), some (.ref 9), some (.int v), none, none], [.int v, .ref 9, .ref 1], qS sw gc (x_R I a 1 v 0 e) J) (q_hn _ _ _ _) rfl ?_
  refine G_callV (b := 9) (ci := 2) (as := [.int v]) (rest := [.ref 1]) rfl rfl rfl (q_lt (by decide)) (by decide) rfl rfl (Nat.le_of_ble_eq_true rfl) (GM_r (r2 := 1) m_mayTell9 (f_mtR9.trans hm)) x_out_n ?_
  refine G_st (L := 89) (k := 1) (30, [some (.ref 1), some (.ref 9), some (.int v), none, none], [.int 4, .int 1, .ref 1], qS sw gc (x_R I a 1 v 0 e) J) (q_hn _ _ _ _) rfl ?_
  refine G_callV (b := 1) (ci := 3) (as := [.int 1, .int 4]) (rest := []) rfl rfl rfl (q_lt (by decide)) (by decide) rfl rfl (Nat.le_of_ble_eq_true rfl) x_req1 x_out_n ?_
  refine G_st (L := 89) (k := 0) (33, [some (.ref 1), some (.ref 9), some (.int v), none, none], [], qS sw gc (x_R I a 1 v 0 e) J) (q_hn _ _ _ _) rfl ?_
  exact H
theorem x_lT33_9 {d : Nat} {sw : Bool} {gc : Nat} {I : Nat → Nat → Int32} {J : Nat → Nat → Int64} {Iz : Nat → Nat → Int32} {l : Nat} (hl : I 2 1 = nI l) (hl2 : l ≤ 200) {p q : Nat} (hp : p ≤ 200) (hq : t_q (x_T I) p = q) (hq4 : q ≤ 400) {b c e v : Int32} (H : G (d + 7) 32 (37, [some (.ref 1), some (.ref 9), some (.int v), none, none], [], qS sw gc (x_R I (nI (t_n (x_T I) q)) (nI (t_k (x_T I q))) (t_v (x_T I) q c) (t_e (x_T I) q) (nI q)) J) none (qS sw gc Iz J)) : G (d + 7) 32 (33, [some (.ref 1), some (.ref 9), some (.int v), none, none], [], qS sw gc (x_R I (nI p) b c 0 e) J) none (qS sw gc Iz J) := by
  refine G_st (L := 89) (k := 1) (34, [some (.ref 1), some (.ref 9), some (.int v), none, none], [.ref 1], qS sw gc (x_R I (nI p) b c 0 e) J) (q_hn _ _ _ _) rfl ?_
  refine G_callV (b := 1) (ci := 3) (as := []) (rest := []) rfl rfl rfl (q_lt (by decide)) (by decide) rfl rfl (Nat.le_of_ble_eq_true rfl) (x_readToken hl hl2 hp hq hq4) x_out_n ?_
  refine G_st (L := 89) (k := 0) (37, [some (.ref 1), some (.ref 9), some (.int v), none, none], [], qS sw gc (x_R I (nI (t_n (x_T I) q)) (nI (t_k (x_T I q))) (t_v (x_T I) q c) (t_e (x_T I) q) (nI q)) J) (q_hn _ _ _ _) rfl ?_
  exact H
theorem x_lT88_9 {d : Nat} {sw : Bool} {gc : Nat} {I : Nat → Nat → Int32} {J : Nat → Nat → Int64} {Iz : Nat → Nat → Int32} {l : Nat} (hl : I 2 1 = nI l) (hl2 : l ≤ 200) {p q : Nat} (hp : p ≤ 200) (hq : t_q (x_T I) p = q) (hq4 : q ≤ 400) {b c e v n w : Int32} (H : G (d + 7) 32 (92, [some (.ref 1), some (.ref 9), some (.int v), some (.int n), some (.int w)], [], qS sw gc (x_R I (nI (t_n (x_T I) q)) (nI (t_k (x_T I q))) (t_v (x_T I) q c) (t_e (x_T I) q) (nI q)) J) none (qS sw gc Iz J)) : G (d + 7) 32 (88, [some (.ref 1), some (.ref 9), some (.int v), some (.int n), some (.int w)], [], qS sw gc (x_R I (nI p) b c 0 e) J) none (qS sw gc Iz J) := by
  refine G_st (L := 89) (k := 1) (89, [some (.ref 1), some (.ref 9), some (.int v), some (.int n), some (.int w)], [.ref 1], qS sw gc (x_R I (nI p) b c 0 e) J) (q_hn _ _ _ _) rfl ?_
  refine G_callV (b := 1) (ci := 3) (as := []) (rest := []) rfl rfl rfl (q_lt (by decide)) (by decide) rfl rfl (Nat.le_of_ble_eq_true rfl) (x_readToken hl hl2 hp hq hq4) x_out_n ?_
  refine G_st (L := 89) (k := 0) (92, [some (.ref 1), some (.ref 9), some (.int v), some (.int n), some (.int w)], [], qS sw gc (x_R I (nI (t_n (x_T I) q)) (nI (t_k (x_T I q))) (t_v (x_T I) q c) (t_e (x_T I) q) (nI q)) J) (q_hn _ _ _ _) rfl ?_
  exact H
theorem x_lT126_9 {d : Nat} {sw : Bool} {gc : Nat} {I : Nat → Nat → Int32} {J : Nat → Nat → Int64} {Iz : Nat → Nat → Int32} {l : Nat} (hl : I 2 1 = nI l) (hl2 : l ≤ 200) {p q : Nat} (hp : p ≤ 200) (hq : t_q (x_T I) p = q) (hq4 : q ≤ 400) {b c e v n w : Int32} (H : G (d + 7) 32 (130, [some (.ref 1), some (.ref 9), some (.int v), some (.int n), some (.int w)], [], qS sw gc (x_R I (nI (t_n (x_T I) q)) (nI (t_k (x_T I q))) (t_v (x_T I) q c) (t_e (x_T I) q) (nI q)) J) none (qS sw gc Iz J)) : G (d + 7) 32 (126, [some (.ref 1), some (.ref 9), some (.int v), some (.int n), some (.int w)], [], qS sw gc (x_R I (nI p) b c 0 e) J) none (qS sw gc Iz J) := by
  refine G_st (L := 89) (k := 1) (127, [some (.ref 1), some (.ref 9), some (.int v), some (.int n), some (.int w)], [.ref 1], qS sw gc (x_R I (nI p) b c 0 e) J) (q_hn _ _ _ _) rfl ?_
  refine G_callV (b := 1) (ci := 3) (as := []) (rest := []) rfl rfl rfl (q_lt (by decide)) (by decide) rfl rfl (Nat.le_of_ble_eq_true rfl) (x_readToken hl hl2 hp hq hq4) x_out_n ?_
  refine G_st (L := 89) (k := 0) (130, [some (.ref 1), some (.ref 9), some (.int v), some (.int n), some (.int w)], [], qS sw gc (x_R I (nI (t_n (x_T I) q)) (nI (t_k (x_T I q))) (t_v (x_T I) q c) (t_e (x_T I) q) (nI q)) J) (q_hn _ _ _ _) rfl ?_
  exact H
theorem x_lB1_9 {d : Nat} {sw : Bool} {gc : Nat} {I : Nat → Nat → Int32} {J : Nat → Nat → Int64}  {a k n e v : Int32} (hk : ¬ k = 2) : G (d + 7) 32 (37, [some (.ref 1), some (.ref 9), some (.int v), none, none], [], qS sw gc (x_R I a k n 0 e) J) none (qS sw gc (x_R I a k n 2 e) J) := by
  refine G_st (L := 89) (k := 4) (43, [some (.ref 1), some (.ref 9), some (.int v), none, none], [.int 2, .int k, .ref 1], qS sw gc (x_R I a k n 0 e) J) (q_hn _ _ _ _) rfl ?_
  refine G_icmp_ne 50 rfl rfl (fun _ => ?_) (fun h9 => absurd h9 hk)
  refine G_st (L := 89) (k := 2) (52, [some (.ref 1), some (.ref 9), some (.int v), none, none], [.int 2, .int 0, .ref 1], qS sw gc (x_R I a k n 0 e) J) (q_hn _ _ _ _) rfl ?_
  refine G_callV (b := 1) (ci := 3) (as := [.int 0, .int 2]) (rest := []) rfl rfl rfl (q_lt (by decide)) (by decide) rfl rfl (Nat.le_of_ble_eq_true rfl) x_req0 x_out_n ?_
  refine G_st (L := 89) (k := 0) (55, [some (.ref 1), some (.ref 9), some (.int v), none, none], [], qS sw gc (x_R I a k n 2 e) J) (q_hn _ _ _ _) rfl ?_
  exact x_lF55_9 (by decide)
theorem x_lB2_9 {d : Nat} {sw : Bool} {gc : Nat} {I : Nat → Nat → Int32} {J : Nat → Nat → Int64}  {a n e v : Int32} (hm : f_inb v n = 0) : G (d + 7) 32 (37, [some (.ref 1), some (.ref 9), some (.int v), none, none], [], qS sw gc (x_R I a 2 n 0 e) J) none (qS sw gc (x_R I a 2 n 3 e) J) := by
  refine G_st (L := 89) (k := 4) (43, [some (.ref 1), some (.ref 9), some (.int v), none, none], [.int 2, .int 2, .ref 1], qS sw gc (x_R I a 2 n 0 e) J) (q_hn _ _ _ _) rfl ?_
  refine G_icmp_ne 50 rfl rfl (fun h9 => absurd h9 (by decide)) (fun _ => ?_)
  refine G_st (L := 89) (k := 3) (52, [some (.ref 1), some (.ref 9), some (.int v), none, none], [.int 2, .int 1, .ref 1], qS sw gc (x_R I a 2 n 0 e) J) (q_hn _ _ _ _) rfl ?_
  refine G_callV (b := 1) (ci := 3) (as := [.int 1, .int 2]) (rest := []) rfl rfl rfl (q_lt (by decide)) (by decide) rfl rfl (Nat.le_of_ble_eq_true rfl) x_req1 x_out_n ?_
  refine G_st (L := 89) (k := 6) (63, [some (.ref 1), some (.ref 9), some (.int v), some (.int n), none], [.int n, .int v, .ref 1], qS sw gc (x_R I a 2 n 0 e) J) (q_hn _ _ _ _) rfl ?_
  refine G_callS (as := [.int v, .int n]) (rest := [.ref 1]) rfl rfl rfl (Nat.le_of_ble_eq_true rfl) (GM_r (r2 := 0) m_inb hm) x_out_n ?_
  refine G_st (L := 89) (k := 1) (67, [some (.ref 1), some (.ref 9), some (.int v), some (.int n), none], [.int 3, .int 0, .ref 1], qS sw gc (x_R I a 2 n 0 e) J) (q_hn _ _ _ _) rfl ?_
  refine G_callV (b := 1) (ci := 3) (as := [.int 0, .int 3]) (rest := []) rfl rfl rfl (q_lt (by decide)) (by decide) rfl rfl (Nat.le_of_ble_eq_true rfl) x_req0 x_out_n ?_
  refine G_st (L := 89) (k := 2) (73, [some (.ref 1), some (.ref 9), some (.int v), some (.int n), some (.int 0)], [], qS sw gc (x_R I a 2 n 3 e) J) (q_hn _ _ _ _) rfl ?_
  exact x_lF73_9 (by decide)
theorem x_lB3_9 {d : Nat} {sw : Bool} {gc : Nat} {I : Nat → Nat → Int32} {J : Nat → Nat → Int64} {Iz : Nat → Nat → Int32} {a n e v : Int32} (hm : f_inb v n = 1) (H : G (d + 7) 32 (73, [some (.ref 1), some (.ref 9), some (.int v), some (.int n), some (.int 0)], [], qS sw gc (x_R I a 2 n 0 e) J) none (qS sw gc Iz J)) : G (d + 7) 32 (37, [some (.ref 1), some (.ref 9), some (.int v), none, none], [], qS sw gc (x_R I a 2 n 0 e) J) none (qS sw gc Iz J) := by
  refine G_st (L := 89) (k := 4) (43, [some (.ref 1), some (.ref 9), some (.int v), none, none], [.int 2, .int 2, .ref 1], qS sw gc (x_R I a 2 n 0 e) J) (q_hn _ _ _ _) rfl ?_
  refine G_icmp_ne 50 rfl rfl (fun h9 => absurd h9 (by decide)) (fun _ => ?_)
  refine G_st (L := 89) (k := 3) (52, [some (.ref 1), some (.ref 9), some (.int v), none, none], [.int 2, .int 1, .ref 1], qS sw gc (x_R I a 2 n 0 e) J) (q_hn _ _ _ _) rfl ?_
  refine G_callV (b := 1) (ci := 3) (as := [.int 1, .int 2]) (rest := []) rfl rfl rfl (q_lt (by decide)) (by decide) rfl rfl (Nat.le_of_ble_eq_true rfl) x_req1 x_out_n ?_
  refine G_st (L := 89) (k := 6) (63, [some (.ref 1), some (.ref 9), some (.int v), some (.int n), none], [.int n, .int v, .ref 1], qS sw gc (x_R I a 2 n 0 e) J) (q_hn _ _ _ _) rfl ?_
  refine G_callS (as := [.int v, .int n]) (rest := [.ref 1]) rfl rfl rfl (Nat.le_of_ble_eq_true rfl) (GM_r (r2 := 1) m_inb hm) x_out_n ?_
  refine G_st (L := 89) (k := 1) (67, [some (.ref 1), some (.ref 9), some (.int v), some (.int n), none], [.int 3, .int 1, .ref 1], qS sw gc (x_R I a 2 n 0 e) J) (q_hn _ _ _ _) rfl ?_
  refine G_callV (b := 1) (ci := 3) (as := [.int 1, .int 3]) (rest := []) rfl rfl rfl (q_lt (by decide)) (by decide) rfl rfl (Nat.le_of_ble_eq_true rfl) x_req1 x_out_n ?_
  refine G_st (L := 89) (k := 2) (73, [some (.ref 1), some (.ref 9), some (.int v), some (.int n), some (.int 0)], [], qS sw gc (x_R I a 2 n 0 e) J) (q_hn _ _ _ _) rfl ?_
  exact H
theorem x_lC1_9 {d : Nat} {sw : Bool} {gc : Nat} {I : Nat → Nat → Int32} {J : Nat → Nat → Int64} {Iz : Nat → Nat → Int32} {a k c e v n w : Int32} (hv : ¬ v = 4) (H : G (d + 7) 32 (126, [some (.ref 1), some (.ref 9), some (.int v), some (.int n), some (.int w)], [], qS sw gc (x_R I a k c 0 e) J) none (qS sw gc Iz J)) : G (d + 7) 32 (73, [some (.ref 1), some (.ref 9), some (.int v), some (.int n), some (.int w)], [], qS sw gc (x_R I a k c 0 e) J) none (qS sw gc Iz J) := by
  refine G_st (L := 89) (k := 2) (75, [some (.ref 1), some (.ref 9), some (.int v), some (.int n), some (.int w)], [.int 4, .int v], qS sw gc (x_R I a k c 0 e) J) (q_hn _ _ _ _) rfl ?_
  refine G_icmp_ne 126 rfl rfl (fun _ => ?_) (fun h9 => absurd h9 hv)
  exact H
theorem x_lC2_9 {d : Nat} {sw : Bool} {gc : Nat} {I : Nat → Nat → Int32} {J : Nat → Nat → Int64}  {a k c e n w : Int32} (hm : f_ab9 I n = 0) : G (d + 7) 32 (73, [some (.ref 1), some (.ref 9), some (.int 4), some (.int n), some (.int w)], [], qS sw gc (x_R I a k c 0 e) J) none (qS sw gc (x_R I a k c 5 e) J) := by
  refine G_st (L := 89) (k := 2) (75, [some (.ref 1), some (.ref 9), some (.int 4), some (.int n), some (.int w)], [.int 4, .int 4], qS sw gc (x_R I a k c 0 e) J) (q_hn _ _ _ _) rfl ?_
  refine G_icmp_ne 126 rfl rfl (fun h9 => absurd h9 (by decide)) (fun _ => ?_)
  refine G_st (L := 89) (k := 3) (81, [some (.ref 1), some (.ref 9), some (.int 4), some (.int n), some (.int w)], [.int n, .ref 9, .ref 1], qS sw gc (x_R I a k c 0 e) J) (q_hn _ _ _ _) rfl ?_
  refine G_callV (b := 9) (ci := 2) (as := [.int n]) (rest := [.ref 1]) rfl rfl rfl (q_lt (by decide)) (by decide) rfl rfl (Nat.le_of_ble_eq_true rfl) (GM_r (r2 := 0) m_above9 (f_abR9.trans hm)) x_out_n ?_
  refine G_st (L := 89) (k := 1) (85, [some (.ref 1), some (.ref 9), some (.int 4), some (.int n), some (.int w)], [.int 5, .int 0, .ref 1], qS sw gc (x_R I a k c 0 e) J) (q_hn _ _ _ _) rfl ?_
  refine G_callV (b := 1) (ci := 3) (as := [.int 0, .int 5]) (rest := []) rfl rfl rfl (q_lt (by decide)) (by decide) rfl rfl (Nat.le_of_ble_eq_true rfl) x_req0 x_out_n ?_
  refine G_st (L := 89) (k := 0) (88, [some (.ref 1), some (.ref 9), some (.int 4), some (.int n), some (.int w)], [], qS sw gc (x_R I a k c 5 e) J) (q_hn _ _ _ _) rfl ?_
  exact x_lF88_9 (by decide)
theorem x_lC3_9 {d : Nat} {sw : Bool} {gc : Nat} {I : Nat → Nat → Int32} {J : Nat → Nat → Int64} {Iz : Nat → Nat → Int32} {a k c e n w : Int32} (hm : f_ab9 I n = 1) (H : G (d + 7) 32 (88, [some (.ref 1), some (.ref 9), some (.int 4), some (.int n), some (.int w)], [], qS sw gc (x_R I a k c 0 e) J) none (qS sw gc Iz J)) : G (d + 7) 32 (73, [some (.ref 1), some (.ref 9), some (.int 4), some (.int n), some (.int w)], [], qS sw gc (x_R I a k c 0 e) J) none (qS sw gc Iz J) := by
  refine G_st (L := 89) (k := 2) (75, [some (.ref 1), some (.ref 9), some (.int 4), some (.int n), some (.int w)], [.int 4, .int 4], qS sw gc (x_R I a k c 0 e) J) (q_hn _ _ _ _) rfl ?_
  refine G_icmp_ne 126 rfl rfl (fun h9 => absurd h9 (by decide)) (fun _ => ?_)
  refine G_st (L := 89) (k := 3) (81, [some (.ref 1), some (.ref 9), some (.int 4), some (.int n), some (.int w)], [.int n, .ref 9, .ref 1], qS sw gc (x_R I a k c 0 e) J) (q_hn _ _ _ _) rfl ?_
  refine G_callV (b := 9) (ci := 2) (as := [.int n]) (rest := [.ref 1]) rfl rfl rfl (q_lt (by decide)) (by decide) rfl rfl (Nat.le_of_ble_eq_true rfl) (GM_r (r2 := 1) m_above9 (f_abR9.trans hm)) x_out_n ?_
  refine G_st (L := 89) (k := 1) (85, [some (.ref 1), some (.ref 9), some (.int 4), some (.int n), some (.int w)], [.int 5, .int 1, .ref 1], qS sw gc (x_R I a k c 0 e) J) (q_hn _ _ _ _) rfl ?_
  refine G_callV (b := 1) (ci := 3) (as := [.int 1, .int 5]) (rest := []) rfl rfl rfl (q_lt (by decide)) (by decide) rfl rfl (Nat.le_of_ble_eq_true rfl) x_req1 x_out_n ?_
  refine G_st (L := 89) (k := 0) (88, [some (.ref 1), some (.ref 9), some (.int 4), some (.int n), some (.int w)], [], qS sw gc (x_R I a k c 0 e) J) (q_hn _ _ _ _) rfl ?_
  exact H
theorem x_lD1_9 {d : Nat} {sw : Bool} {gc : Nat} {I : Nat → Nat → Int32} {J : Nat → Nat → Int64}  {a k c e v n w : Int32} (hk : ¬ k = 2) : G (d + 7) 32 (92, [some (.ref 1), some (.ref 9), some (.int v), some (.int n), some (.int w)], [], qS sw gc (x_R I a k c 0 e) J) none (qS sw gc (x_R I a k c 2 e) J) := by
  refine G_st (L := 89) (k := 4) (98, [some (.ref 1), some (.ref 9), some (.int v), some (.int n), some (.int w)], [.int 2, .int k, .ref 1], qS sw gc (x_R I a k c 0 e) J) (q_hn _ _ _ _) rfl ?_
  refine G_icmp_ne 105 rfl rfl (fun _ => ?_) (fun h9 => absurd h9 hk)
  refine G_st (L := 89) (k := 2) (107, [some (.ref 1), some (.ref 9), some (.int v), some (.int n), some (.int w)], [.int 2, .int 0, .ref 1], qS sw gc (x_R I a k c 0 e) J) (q_hn _ _ _ _) rfl ?_
  refine G_callV (b := 1) (ci := 3) (as := [.int 0, .int 2]) (rest := []) rfl rfl rfl (q_lt (by decide)) (by decide) rfl rfl (Nat.le_of_ble_eq_true rfl) x_req0 x_out_n ?_
  refine G_st (L := 89) (k := 0) (110, [some (.ref 1), some (.ref 9), some (.int v), some (.int n), some (.int w)], [], qS sw gc (x_R I a k c 2 e) J) (q_hn _ _ _ _) rfl ?_
  exact x_lF110_9 (by decide)
theorem x_lD2_9 {d : Nat} {sw : Bool} {gc : Nat} {I : Nat → Nat → Int32} {J : Nat → Nat → Int64}  {a c e v n w : Int32} (hm : f_isPoundage c = 0) : G (d + 7) 32 (92, [some (.ref 1), some (.ref 9), some (.int v), some (.int n), some (.int w)], [], qS sw gc (x_R I a 2 c 0 e) J) none (qS sw gc (x_R I a 2 c 3 e) J) := by
  refine G_st (L := 89) (k := 4) (98, [some (.ref 1), some (.ref 9), some (.int v), some (.int n), some (.int w)], [.int 2, .int 2, .ref 1], qS sw gc (x_R I a 2 c 0 e) J) (q_hn _ _ _ _) rfl ?_
  refine G_icmp_ne 105 rfl rfl (fun h9 => absurd h9 (by decide)) (fun _ => ?_)
  refine G_st (L := 89) (k := 3) (107, [some (.ref 1), some (.ref 9), some (.int v), some (.int n), some (.int w)], [.int 2, .int 1, .ref 1], qS sw gc (x_R I a 2 c 0 e) J) (q_hn _ _ _ _) rfl ?_
  refine G_callV (b := 1) (ci := 3) (as := [.int 1, .int 2]) (rest := []) rfl rfl rfl (q_lt (by decide)) (by decide) rfl rfl (Nat.le_of_ble_eq_true rfl) x_req1 x_out_n ?_
  refine G_st (L := 89) (k := 5) (119, [some (.ref 1), some (.ref 9), some (.int v), some (.int n), some (.int c)], [.int c, .ref 1], qS sw gc (x_R I a 2 c 0 e) J) (q_hn _ _ _ _) rfl ?_
  refine G_callS (as := [.int c]) (rest := [.ref 1]) rfl rfl rfl (Nat.le_of_ble_eq_true rfl) (GM_r (r2 := 0) (m_isPoundage _) hm) x_out_n ?_
  refine G_st (L := 89) (k := 1) (123, [some (.ref 1), some (.ref 9), some (.int v), some (.int n), some (.int c)], [.int 3, .int 0, .ref 1], qS sw gc (x_R I a 2 c 0 e) J) (q_hn _ _ _ _) rfl ?_
  refine G_callV (b := 1) (ci := 3) (as := [.int 0, .int 3]) (rest := []) rfl rfl rfl (q_lt (by decide)) (by decide) rfl rfl (Nat.le_of_ble_eq_true rfl) x_req0 x_out_n ?_
  refine G_st (L := 89) (k := 0) (126, [some (.ref 1), some (.ref 9), some (.int v), some (.int n), some (.int c)], [], qS sw gc (x_R I a 2 c 3 e) J) (q_hn _ _ _ _) rfl ?_
  exact x_lF126_9 (by decide)
theorem x_lD3_9 {d : Nat} {sw : Bool} {gc : Nat} {I : Nat → Nat → Int32} {J : Nat → Nat → Int64} {Iz : Nat → Nat → Int32} {a c e v n w : Int32} (hm : f_isPoundage c = 1) (H : G (d + 7) 32 (126, [some (.ref 1), some (.ref 9), some (.int v), some (.int n), some (.int c)], [], qS sw gc (x_R I a 2 c 0 e) J) none (qS sw gc Iz J)) : G (d + 7) 32 (92, [some (.ref 1), some (.ref 9), some (.int v), some (.int n), some (.int w)], [], qS sw gc (x_R I a 2 c 0 e) J) none (qS sw gc Iz J) := by
  refine G_st (L := 89) (k := 4) (98, [some (.ref 1), some (.ref 9), some (.int v), some (.int n), some (.int w)], [.int 2, .int 2, .ref 1], qS sw gc (x_R I a 2 c 0 e) J) (q_hn _ _ _ _) rfl ?_
  refine G_icmp_ne 105 rfl rfl (fun h9 => absurd h9 (by decide)) (fun _ => ?_)
  refine G_st (L := 89) (k := 3) (107, [some (.ref 1), some (.ref 9), some (.int v), some (.int n), some (.int w)], [.int 2, .int 1, .ref 1], qS sw gc (x_R I a 2 c 0 e) J) (q_hn _ _ _ _) rfl ?_
  refine G_callV (b := 1) (ci := 3) (as := [.int 1, .int 2]) (rest := []) rfl rfl rfl (q_lt (by decide)) (by decide) rfl rfl (Nat.le_of_ble_eq_true rfl) x_req1 x_out_n ?_
  refine G_st (L := 89) (k := 5) (119, [some (.ref 1), some (.ref 9), some (.int v), some (.int n), some (.int c)], [.int c, .ref 1], qS sw gc (x_R I a 2 c 0 e) J) (q_hn _ _ _ _) rfl ?_
  refine G_callS (as := [.int c]) (rest := [.ref 1]) rfl rfl rfl (Nat.le_of_ble_eq_true rfl) (GM_r (r2 := 1) (m_isPoundage _) hm) x_out_n ?_
  refine G_st (L := 89) (k := 1) (123, [some (.ref 1), some (.ref 9), some (.int v), some (.int n), some (.int c)], [.int 3, .int 1, .ref 1], qS sw gc (x_R I a 2 c 0 e) J) (q_hn _ _ _ _) rfl ?_
  refine G_callV (b := 1) (ci := 3) (as := [.int 1, .int 3]) (rest := []) rfl rfl rfl (q_lt (by decide)) (by decide) rfl rfl (Nat.le_of_ble_eq_true rfl) x_req1 x_out_n ?_
  refine G_st (L := 89) (k := 0) (126, [some (.ref 1), some (.ref 9), some (.int v), some (.int n), some (.int c)], [], qS sw gc (x_R I a 2 c 0 e) J) (q_hn _ _ _ _) rfl ?_
  exact H
theorem x_lE1_9 {d : Nat} {sw : Bool} {gc : Nat} {I : Nat → Nat → Int32} {J : Nat → Nat → Int64}  {a k c e v n w : Int32} (hk : ¬ k = 3) : G (d + 7) 32 (130, [some (.ref 1), some (.ref 9), some (.int v), some (.int n), some (.int w)], [], qS sw gc (x_R I a k c 0 e) J) none (qS sw gc (x_R I a k c 2 e) J) := by
  refine G_st (L := 89) (k := 4) (136, [some (.ref 1), some (.ref 9), some (.int v), some (.int n), some (.int w)], [.int 3, .int k, .ref 1], qS sw gc (x_R I a k c 0 e) J) (q_hn _ _ _ _) rfl ?_
  refine G_icmp_ne 143 rfl rfl (fun _ => ?_) (fun h9 => absurd h9 hk)
  refine G_st (L := 89) (k := 2) (145, [some (.ref 1), some (.ref 9), some (.int v), some (.int n), some (.int w)], [.int 2, .int 0, .ref 1], qS sw gc (x_R I a k c 0 e) J) (q_hn _ _ _ _) rfl ?_
  refine G_callV (b := 1) (ci := 3) (as := [.int 0, .int 2]) (rest := []) rfl rfl rfl (q_lt (by decide)) (by decide) rfl rfl (Nat.le_of_ble_eq_true rfl) x_req0 x_out_n ?_
  refine G_st (L := 89) (k := 0) (148, [some (.ref 1), some (.ref 9), some (.int v), some (.int n), some (.int w)], [], qS sw gc (x_R I a k c 2 e) J) (q_hn _ _ _ _) rfl ?_
  exact x_lF148_9 (by decide)
theorem x_lE2_9 {d : Nat} {sw : Bool} {gc : Nat} {I : Nat → Nat → Int32} {J : Nat → Nat → Int64} {I1 : Nat → Nat → Int32} {a c e v n w : Int32} (H : GM (d + 6) 26 [.ref 9, .int v, .int n, .int w] (qS sw gc (x_R I a 3 c 0 e) J) none (qS sw gc I1 J)) : G (d + 7) 32 (130, [some (.ref 1), some (.ref 9), some (.int v), some (.int n), some (.int w)], [], qS sw gc (x_R I a 3 c 0 e) J) none (qS sw gc I1 J) := by
  refine G_st (L := 89) (k := 4) (136, [some (.ref 1), some (.ref 9), some (.int v), some (.int n), some (.int w)], [.int 3, .int 3, .ref 1], qS sw gc (x_R I a 3 c 0 e) J) (q_hn _ _ _ _) rfl ?_
  refine G_icmp_ne 143 rfl rfl (fun h9 => absurd h9 (by decide)) (fun _ => ?_)
  refine G_st (L := 89) (k := 3) (145, [some (.ref 1), some (.ref 9), some (.int v), some (.int n), some (.int w)], [.int 2, .int 1, .ref 1], qS sw gc (x_R I a 3 c 0 e) J) (q_hn _ _ _ _) rfl ?_
  refine G_callV (b := 1) (ci := 3) (as := [.int 1, .int 2]) (rest := []) rfl rfl rfl (q_lt (by decide)) (by decide) rfl rfl (Nat.le_of_ble_eq_true rfl) x_req1 x_out_n ?_
  refine G_st (L := 89) (k := 2) (152, [some (.ref 1), some (.ref 9), some (.int v), some (.int n), some (.int w)], [.int 0], qS sw gc (x_R I a 3 c 0 e) J) (q_hn _ _ _ _) rfl ?_
  refine G_if_ne 163 rfl rfl (fun h9 => absurd h9 (by decide)) (fun _ => ?_)
  refine G_st (L := 89) (k := 4) (160, [some (.ref 1), some (.ref 9), some (.int v), some (.int n), some (.int w)], [.int w, .int n, .int v, .ref 9], qS sw gc (x_R I a 3 c 0 e) J) (q_hn _ _ _ _) rfl ?_
  refine G_callV (b := 9) (ci := 2) (as := [.int v, .int n, .int w]) (rest := []) rfl rfl rfl (q_lt (by decide)) (by decide) rfl rfl (Nat.le_of_ble_eq_true rfl) H x_out_n ?_
  refine G_st (L := 89) (k := 0) (163, [some (.ref 1), some (.ref 9), some (.int v), some (.int n), some (.int w)], [], qS sw gc I1 J) (q_hn _ _ _ _) rfl ?_
  exact G_ret rfl rfl rfl rfl
