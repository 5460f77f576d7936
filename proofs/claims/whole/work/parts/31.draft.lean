def f_inb (k v : Int32) : Int32 := if k < 0 then 0 else if 4 < k then 0 else if v < [(0 : Int32), 1, 0, 0, 0].getD k.toNatClampNeg 0 then 0 else if [(9999 : Int32), 20, 999, 100, 9].getD k.toNatClampNeg 0 < v then 0 else 1
theorem q_in5 {k : Int32} (h1 : ¬ k < 0) (h2 : ¬ 4 < k) : vp_in k 5 := by
  rcases q_ix k (n := 5) (by decide) with ⟨j, hj, rfl⟩ | h | h
  · exact vp_in_nI hj (by decide)
  · exact absurd h h1
  · exact absurd h2 (by
      rw [q_le_int] at h
      rw [q_lt_int]
      have e0 : (nI 5).toInt = 5 := rfl
      have e4 : (4 : Int32).toInt = 4 := rfl
      omega)
theorem q_in4 {k : Int32} (h : ¬ f_isNumberLaw k = 0) : vp_in k 4 := by
  rcases q_ix k (n := 4) (by decide) with ⟨j, hj, rfl⟩ | h2 | h2
  · exact vp_in_nI hj (by decide)
  · exact absurd (by rw [f_isNumberLaw, if_pos h2]) h
  · exact absurd (by
      unfold f_isNumberLaw
      split
      · rfl
      · rw [if_pos (show (4 : Int32) ≤ k from h2)]) h
theorem q_in4p {k : Int32} (h1 : ¬ k < 1) (h2 : ¬ 4 < k) : vp_in (k - 1) 4 := by
  rcases q_ix k (n := 5) (by decide) with ⟨j, hj, rfl⟩ | h | h
  · have hj1 : 1 ≤ j := by
      rcases Nat.eq_zero_or_pos j with h0 | h0
      · subst h0; exact absurd (by decide) h1
      · exact h0
    rw [show nI j - 1 = nI (j - 1) from q_subP rfl rfl hj1]
    exact vp_in_nI (by omega) (by decide)
  · exact absurd (by rw [q_lt_int] at h ⊢; have e0 : (0 : Int32).toInt = 0 := rfl; have e4 : (1 : Int32).toInt = 1 := rfl; omega) h1
  · exact absurd (by rw [q_le_int] at h; rw [q_lt_int]; have e0 : (nI 5).toInt = 5 := rfl; have e4 : (4 : Int32).toInt = 4 := rfl; omega) h2
theorem m_inb {d : Nat} {M : qM} {k v : Int32} : GM d 23 [.int k, .int v] (M) (some (.int (f_inb k v))) (M) := by
  refine GM_of (by decide) (Nat.le_refl _) (Nat.le_of_ble_eq_true rfl) (by unfold f_inb; repeat (first | rfl | split)) ?_
  refine G_st (L := 0) (k := 0) (0, [some (.int k), some (.int v)], [], M) (Nat.zero_le _) rfl ?_
  refine G_st (L := 0) (k := 1) (1, [some (.int k), some (.int v)], [.int k], M) (Nat.zero_le _) rfl ?_
  refine G_if_lt 31 rfl rfl (fun h1 => ?_) (fun h1 => ?_)
  · skip
    refine G_st (L := 0) (k := 1) (32, [some (.int k), some (.int v)], [.int 0], M) (Nat.zero_le _) rfl ?_
    exact G_iret rfl rfl (by rw [f_inb, if_pos h1]) rfl
  · skip
    refine G_st (L := 0) (k := 2) (6, [some (.int k), some (.int v)], [.int 4, .int k], M) (Nat.zero_le _) rfl ?_
    refine G_icmp_gt 31 rfl rfl (fun h2 => ?_) (fun h2 => ?_)
    · skip
      refine G_st (L := 0) (k := 1) (32, [some (.int k), some (.int v)], [.int 0], M) (Nat.zero_le _) rfl ?_
      exact G_iret rfl rfl (by rw [f_inb, if_neg h1, if_pos h2]) rfl
    · skip
      refine G_st (L := 0) (k := 1) (10, [some (.int k), some (.int v)], [.int v], M) (Nat.zero_le _) rfl ?_
      refine G_gets rfl rfl ?_
      refine G_st (L := 0) (k := 1) (14, [some (.int k), some (.int v)], [.int k, .float 1, .int v], M) (Nat.zero_le _) rfl ?_
      refine G_ialdK (q := (1, "LEAST", 5, [0, 1, 0, 0, 0])) rfl (by decide) rfl (q_in5 h1 h2) rfl ?_
      refine G_st (L := 0) (k := 0) (15, [some (.int k), some (.int v)], [.int (List.getD [(0 : Int32), (1 : Int32), (0 : Int32), (0 : Int32), (0 : Int32)] (Int32.toNatClampNeg k) 0), .int v], M) (Nat.zero_le _) rfl ?_
      refine G_icmp_lt 31 rfl rfl (fun h3 => ?_) (fun h3 => ?_)
      · skip
        refine G_st (L := 0) (k := 1) (32, [some (.int k), some (.int v)], [.int 0], M) (Nat.zero_le _) rfl ?_
        exact G_iret rfl rfl (by rw [f_inb, if_neg h1, if_neg h2, if_pos h3]) rfl
      · skip
        refine G_st (L := 0) (k := 1) (19, [some (.int k), some (.int v)], [.int v], M) (Nat.zero_le _) rfl ?_
        refine G_gets rfl rfl ?_
        refine G_st (L := 0) (k := 1) (23, [some (.int k), some (.int v)], [.int k, .float 2, .int v], M) (Nat.zero_le _) rfl ?_
        refine G_ialdK (q := (2, "GREATEST", 5, [9999, 20, 999, 100, 9])) rfl (by decide) rfl (q_in5 h1 h2) rfl ?_
        refine G_st (L := 0) (k := 0) (24, [some (.int k), some (.int v)], [.int (List.getD [(9999 : Int32), (20 : Int32), (999 : Int32), (100 : Int32), (9 : Int32)] (Int32.toNatClampNeg k) 0), .int v], M) (Nat.zero_le _) rfl ?_
        refine G_icmp_gt 31 rfl rfl (fun h4 => ?_) (fun h4 => ?_)
        · skip
          refine G_st (L := 0) (k := 1) (32, [some (.int k), some (.int v)], [.int 0], M) (Nat.zero_le _) rfl ?_
          exact G_iret rfl rfl (by rw [f_inb, if_neg h1, if_neg h2, if_neg h3, if_pos h4]) rfl
        · skip
          refine G_st (L := 0) (k := 2) (32, [some (.int k), some (.int v)], [.int 1], M) (Nat.zero_le _) rfl ?_
          exact G_iret rfl rfl (by rw [f_inb, if_neg h1, if_neg h2, if_neg h3, if_neg h4]) rfl
def y_S (I : Nat → Nat → Int32) (q : Nat) (v f : Int32) : Nat → Nat → Int32 := x_R I (nI (t_n (x_T I) q)) (nI (t_k (x_T I q))) (t_v (x_T I) q v) f (nI q)
theorem t_k_le (c : Int32) : t_k c ≤ 3 := by
  unfold t_k
  split
  · omega
  · split
    · omega
    · split <;> omega
theorem t_n_le (t : Nat → Int32) (q : Nat) : q ≤ t_n t q ∧ t_n t q ≤ q + 200 := by
  unfold t_n
  have h1 := q_run_ge q_isL t 200 q
  have h2 := q_run_ge q_isF t 200 q
  split
  · omega
  · split
    · omega
    · split <;> omega
theorem t_q_le (t : Nat → Int32) (p : Nat) : p ≤ t_q t p ∧ t_q t p ≤ p + 200 := q_run_ge q_isB t 200 p
theorem f_pdg01 (v : Int32) : f_isPoundage v = 1 ∨ f_isPoundage v = 0 := by
  unfold f_isPoundage
  split
  · exact Or.inr rfl
  · split
    · exact Or.inr rfl
    · exact Or.inl rfl
theorem f_inb01 (k v : Int32) : f_inb k v = 1 ∨ f_inb k v = 0 := by
  unfold f_inb
  repeat (first | exact Or.inl rfl | exact Or.inr rfl | split)
def f_mt4 (I : Nat → Nat → Int32) (x : Int32) : Int32 := if f_isNumberLaw x = 0 then (if 4 ≤ I 4 4 then 0 else 1) else if I 6 x.toNatClampNeg = 0 then 1 else 0
theorem m_mayTell4 {d : Nat} {sw : Bool} {gc : Nat} {I : Nat → Nat → Int32} {J : Nat → Nat → Int64} {x : Int32} : GM (d + 1) 22 [.ref 4, .int x] (qS sw gc I J) (some (.int (f_mt4 I x))) (qS sw gc I J) := by
  refine GM_of (by decide) (Nat.le_refl _) (Nat.le_of_ble_eq_true rfl) (by unfold f_mt4; repeat (first | rfl | split)) ?_
  refine G_st (L := 89) (k := 0) (0, [some (.ref 4), some (.int x)], [], qS sw gc I J) (q_hn _ _ _ _) rfl ?_
  refine G_st (L := 89) (k := 1) (1, [some (.ref 4), some (.int x)], [.int x], qS sw gc I J) (q_hn _ _ _ _) rfl ?_
  refine G_callS (as := [.int x]) (rest := []) rfl rfl rfl (Nat.le_of_ble_eq_true rfl) (m_isNumberLaw _) x_out_n ?_
  refine G_st (L := 89) (k := 0) (4, [some (.ref 4), some (.int x)], [.int (f_isNumberLaw x)], qS sw gc I J) (q_hn _ _ _ _) rfl ?_
  refine G_if_eq 24 rfl rfl (fun h1 => ?_) (fun h1 => ?_)
  · skip
    refine G_st (L := 89) (k := 3) (29, [some (.ref 4), some (.int x)], [.int 4, .int (I 4 4)], qS sw gc I J) (q_hn _ _ _ _) rfl ?_
    refine G_icmp_ge 36 rfl rfl (fun h2 => ?_) (fun h2 => ?_)
    · skip
      refine G_st (L := 89) (k := 1) (37, [some (.ref 4), some (.int x)], [.int 0], qS sw gc I J) (q_hn _ _ _ _) rfl ?_
      exact G_iret rfl rfl (by rw [f_mt4, if_pos h1, if_pos h2]) rfl
    · skip
      refine G_st (L := 89) (k := 2) (37, [some (.ref 4), some (.int x)], [.int 1], qS sw gc I J) (q_hn _ _ _ _) rfl ?_
      exact G_iret rfl rfl (by rw [f_mt4, if_pos h1, if_neg h2]) rfl
  · skip
    refine G_st (L := 89) (k := 3) (12, [some (.ref 4), some (.int x)], [.int x, .ref 6], qS sw gc I J) (q_hn _ _ _ _) rfl ?_
    refine G_zald (i := 6) (n := 4) rfl rfl (q_lt (by decide)) (q_in4 h1) ?_
    refine G_st (L := 89) (k := 0) (13, [some (.ref 4), some (.int x)], [.int (I 6 (Int32.toNatClampNeg x))], qS sw gc I J) (q_hn _ _ _ _) rfl ?_
    refine G_if_ne 20 rfl rfl (fun h3 => ?_) (fun h3 => ?_)
    · skip
      refine G_st (L := 89) (k := 2) (37, [some (.ref 4), some (.int x)], [.int 0], qS sw gc I J) (q_hn _ _ _ _) rfl ?_
      exact G_iret rfl rfl (by rw [f_mt4, if_neg h1, if_neg h3]) rfl
    · skip
      refine G_st (L := 89) (k := 2) (37, [some (.ref 4), some (.int x)], [.int 1], qS sw gc I J) (q_hn _ _ _ _) rfl ?_
      exact G_iret rfl rfl (by rw [f_mt4, if_neg h1, if_pos h3]) rfl
def f_ab4 (I : Nat → Nat → Int32) (v : Int32) : Int32 := if I 4 4 < 1 then 1 else if 4 < I 4 4 then 1 else if v ≤ I 7 (I 4 4 - 1).toNatClampNeg then 0 else 1
theorem m_above4 {d : Nat} {sw : Bool} {gc : Nat} {I : Nat → Nat → Int32} {J : Nat → Nat → Int64} {v : Int32} : GM d 25 [.ref 4, .int v] (qS sw gc I J) (some (.int (f_ab4 I v))) (qS sw gc I J) := by
  refine GM_of (by decide) (Nat.le_refl _) (Nat.le_of_ble_eq_true rfl) (by unfold f_ab4; repeat (first | rfl | split)) ?_
  refine G_st (L := 89) (k := 0) (0, [some (.ref 4), some (.int v)], [], qS sw gc I J) (q_hn _ _ _ _) rfl ?_
  refine G_st (L := 89) (k := 3) (5, [some (.ref 4), some (.int v)], [.int 1, .int (I 4 4)], qS sw gc I J) (q_hn _ _ _ _) rfl ?_
  refine G_icmp_lt 31 rfl rfl (fun h1 => ?_) (fun h1 => ?_)
  · skip
    refine G_st (L := 89) (k := 2) (36, [some (.ref 4), some (.int v)], [.int 1], qS sw gc I J) (q_hn _ _ _ _) rfl ?_
    exact G_iret rfl rfl (by rw [f_ab4, if_pos h1]) rfl
  · skip
    refine G_st (L := 89) (k := 3) (13, [some (.ref 4), some (.int v)], [.int 4, .int (I 4 4)], qS sw gc I J) (q_hn _ _ _ _) rfl ?_
    refine G_icmp_gt 31 rfl rfl (fun h2 => ?_) (fun h2 => ?_)
    · skip
      refine G_st (L := 89) (k := 2) (36, [some (.ref 4), some (.int v)], [.int 1], qS sw gc I J) (q_hn _ _ _ _) rfl ?_
      exact G_iret rfl rfl (by rw [f_ab4, if_neg h1, if_pos h2]) rfl
    · skip
      refine G_st (L := 89) (k := 7) (27, [some (.ref 4), some (.int v)], [.int ((I 4 4) - 1), .ref 7, .int v], qS sw gc I J) (q_hn _ _ _ _) rfl ?_
      refine G_iald (i := 7) (n := 4) rfl rfl (q_lt (by decide)) (q_in4p h1 h2) ?_
      refine G_st (L := 89) (k := 0) (28, [some (.ref 4), some (.int v)], [.int (I 7 (Int32.toNatClampNeg ((I 4 4) - 1))), .int v], qS sw gc I J) (q_hn _ _ _ _) rfl ?_
      refine G_icmp_le 35 rfl rfl (fun h3 => ?_) (fun h3 => ?_)
      · skip
        refine G_st (L := 89) (k := 1) (36, [some (.ref 4), some (.int v)], [.int 0], qS sw gc I J) (q_hn _ _ _ _) rfl ?_
        exact G_iret rfl rfl (by rw [f_ab4, if_neg h1, if_neg h2, if_pos h3]) rfl
      · skip
        refine G_st (L := 89) (k := 2) (36, [some (.ref 4), some (.int v)], [.int 1], qS sw gc I J) (q_hn _ _ _ _) rfl ?_
        exact G_iret rfl rfl (by rw [f_ab4, if_neg h1, if_neg h2, if_neg h3]) rfl
theorem f_mt01_4 (I : Nat → Nat → Int32) (x : Int32) : f_mt4 I x = 1 ∨ f_mt4 I x = 0 := by
  unfold f_mt4
  repeat (first | exact Or.inl rfl | exact Or.inr rfl | split)
theorem f_ab01_4 (I : Nat → Nat → Int32) (x : Int32) : f_ab4 I x = 1 ∨ f_ab4 I x = 0 := by
  unfold f_ab4
  repeat (first | exact Or.inl rfl | exact Or.inr rfl | split)
def x_tel4 (I : Nat → Nat → Int32) (k : Nat) (v : Int32) : Nat → Nat → Int32 := q_u (q_u (q_u I 5 k v) 6 k 1) 4 5 (I 4 5 + 1)
theorem x_tell4 {d : Nat} {sw : Bool} {gc : Nat} {I : Nat → Nat → Int32} {J : Nat → Nat → Int64} {k : Nat} {v w : Int32} (hk : k < 4) : GM (d + 1) 26 [.ref 4, .int (nI k), .int v, .int w] (qS sw gc I J) (none) (qS sw gc (x_tel4 I k v) J) := by
  refine GM_of (by decide) (Nat.le_refl _) (Nat.le_of_ble_eq_true rfl) trivial ?_
  refine G_st (L := 89) (k := 0) (0, [some (.ref 4), some (.int (nI k)), some (.int v), some (.int w)], [], qS sw gc I J) (q_hn _ _ _ _) rfl ?_
  refine G_st (L := 89) (k := 1) (1, [some (.ref 4), some (.int (nI k)), some (.int v), some (.int w)], [.int (nI k)], qS sw gc I J) (q_hn _ _ _ _) rfl ?_
  refine G_callS (as := [.int (nI k)]) (rest := []) rfl rfl rfl (Nat.le_of_ble_eq_true rfl) (GM_r (m_isNumberLaw _) (f_isNumberLaw_in hk)) x_out_n ?_
  refine G_st (L := 89) (k := 0) (4, [some (.ref 4), some (.int (nI k)), some (.int v), some (.int w)], [.int 1], qS sw gc I J) (q_hn _ _ _ _) rfl ?_
  refine G_if_eq 34 rfl rfl (fun h9 => absurd h9 (by decide)) (fun _ => ?_)
  refine G_st (L := 89) (k := 4) (13, [some (.ref 4), some (.int (nI k)), some (.int v), some (.int w)], [.int v, .int (nI k), .ref 5], qS sw gc I J) (q_hn _ _ _ _) rfl ?_
  refine G_iast (i := 5) (n := 4) rfl rfl (q_lt (by decide)) (vp_in_nI (by omega) (by decide)) ?_
  rw [q_clamp (n := k) (by omega)]
  refine G_st (L := 89) (k := 4) (20, [some (.ref 4), some (.int (nI k)), some (.int v), some (.int w)], [.int 1, .int (nI k), .ref 6], qS sw gc (q_u I 5 k v) J) (q_hn _ _ _ _) rfl ?_
  refine G_zast (i := 6) (n := 4) rfl rfl (q_lt (by decide)) (vp_in_nI (by omega) (by decide)) ?_
  rw [q_clamp (n := k) (by omega)]
  refine G_st (L := 89) (k := 2) (23, [some (.ref 4), some (.int (nI k)), some (.int v), some (.int w)], [.ref 4, .ref 4], qS sw gc (q_u (q_u I 5 k v) 6 k 1) J) (q_hn _ _ _ _) rfl ?_
  refine G_get (ci := 2) (k := 5) (i := 4) rfl rfl rfl (q_lt (by decide)) ?_
  rw [show q_av (qS sw gc (q_u (q_u I 5 k v) 6 k 1) J) 4 (q_fty 2 5) 5 = .int (I 4 5) from congrArg Value.int (show (q_u (q_u I 5 k v) 6 k 1) 4 5 = I 4 5 from (q_un _ _ (by omega)).trans (q_un _ _ (by omega)))]
  refine G_st (L := 89) (k := 4) (82, [some (.ref 4), some (.int (nI k)), some (.int v), some (.int w)], [], qS sw gc (q_u (q_u (q_u I 5 k v) 6 k 1) 4 5 ((I 4 5) + 1)) J) (q_hn _ _ _ _) rfl ?_
  exact G_ret rfl rfl rfl rfl
def x_telP4 (I : Nat → Nat → Int32) (c : Nat) (v w : Int32) : Nat → Nat → Int32 := q_u (q_u (q_u (q_u I 7 c v) 8 c w) 4 4 (nI (c + 1))) 4 5 (I 4 5 + 1)
theorem x_tellP4 {d : Nat} {sw : Bool} {gc : Nat} {I : Nat → Nat → Int32} {J : Nat → Nat → Int64} {c : Nat} {v w : Int32} (hc : I 4 4 = nI c) (hc4 : c < 4) : GM (d + 1) 26 [.ref 4, .int 4, .int v, .int w] (qS sw gc I J) none (qS sw gc (x_telP4 I c v w) J) := by
  unfold x_telP4
  refine GM_of (by decide) x_out_n (Nat.le_of_ble_eq_true rfl) trivial ?_
  refine G_st (L := 89) (k := 1) (1, [some (.ref 4), some (.int 4), some (.int v), some (.int w)], [.int 4], qS sw gc I J) (q_hn _ _ _ _) rfl ?_
  refine G_callS (as := [.int 4]) (rest := []) rfl rfl rfl (Nat.le_of_ble_eq_true rfl) (GM_r (r2 := 0) (m_isNumberLaw _) (by decide)) x_out_n ?_
  refine G_st (L := 89) (k := 0) (4, [some (.ref 4), some (.int 4), some (.int v), some (.int w)], [.int 0], qS sw gc I J) (q_hn _ _ _ _) rfl ?_
  refine G_if_eq 34 rfl rfl (fun _ => ?_) (fun h9 => absurd h9 (by decide))
  refine G_st (L := 89) (k := 3) (39, [some (.ref 4), some (.int 4), some (.int v), some (.int w)], [.int 4, .int (I 4 4)], qS sw gc I J) (q_hn _ _ _ _) rfl ?_
  rw [show I 4 4 = nI c from hc]
  refine G_icmp_ge 82 rfl rfl (fun h9 => absurd h9 (nI_ge (b := 4) (by omega) (by decide))) (fun _ => ?_)
  refine G_st (L := 89) (k := 5) (51, [some (.ref 4), some (.int 4), some (.int v), some (.int w)], [.int v, .int (I 4 4), .ref 7], qS sw gc I J) (q_hn _ _ _ _) rfl ?_
  rw [show I 4 4 = nI c from hc]
  refine G_iast (i := 7) (n := 4) rfl rfl (q_lt (by decide)) (vp_in_nI (by omega) (by decide)) ?_
  rw [q_clamp (n := c) (by omega)]
  refine G_st (L := 89) (k := 3) (57, [some (.ref 4), some (.int 4), some (.int v), some (.int w)], [.ref 4, .ref 8], qS sw gc (q_u I 7 c v) J) (q_hn _ _ _ _) rfl ?_
  refine G_get (ci := 2) (k := 4) (i := 4) rfl rfl rfl (q_lt (by decide)) ?_
  rw [show q_av (qS sw gc (q_u I 7 c v) J) 4 (q_fty 2 4) 4 = .int (I 4 4) from congrArg Value.int (show (q_u I 7 c v) 4 4 = I 4 4 from q_un _ _ (by omega))]
  refine G_st (L := 89) (k := 1) (61, [some (.ref 4), some (.int 4), some (.int v), some (.int w)], [.int w, .int (I 4 4), .ref 8], qS sw gc (q_u I 7 c v) J) (q_hn _ _ _ _) rfl ?_
  rw [show I 4 4 = nI c from hc]
  refine G_iast (i := 8) (n := 4) rfl rfl (q_lt (by decide)) (vp_in_nI (by omega) (by decide)) ?_
  rw [q_clamp (n := c) (by omega)]
  refine G_st (L := 89) (k := 2) (64, [some (.ref 4), some (.int 4), some (.int v), some (.int w)], [.ref 4, .ref 4], qS sw gc (q_u (q_u I 7 c v) 8 c w) J) (q_hn _ _ _ _) rfl ?_
  refine G_get (ci := 2) (k := 4) (i := 4) rfl rfl rfl (q_lt (by decide)) ?_
  rw [show q_av (qS sw gc (q_u (q_u I 7 c v) 8 c w) J) 4 (q_fty 2 4) 4 = .int (I 4 4) from congrArg Value.int (show (q_u (q_u I 7 c v) 8 c w) 4 4 = I 4 4 from (q_un _ _ (by omega)).trans (q_un _ _ (by omega)))]
  refine G_st (L := 89) (k := 5) (74, [some (.ref 4), some (.int 4), some (.int v), some (.int w)], [.ref 4, .ref 4], qS sw gc (q_u (q_u (q_u I 7 c v) 8 c w) 4 4 ((I 4 4) + 1)) J) (q_hn _ _ _ _) rfl ?_
  refine G_get (ci := 2) (k := 5) (i := 4) rfl rfl rfl (q_lt (by decide)) ?_
  rw [show q_av (qS sw gc (q_u (q_u (q_u I 7 c v) 8 c w) 4 4 ((I 4 4) + 1)) J) 4 (q_fty 2 5) 5 = .int (I 4 5) from congrArg Value.int (show (q_u (q_u (q_u I 7 c v) 8 c w) 4 4 ((I 4 4) + 1)) 4 5 = I 4 5 from (q_un _ _ (by omega)).trans ((q_un _ _ (by omega)).trans (q_un _ _ (by omega))))]
  refine G_st (L := 89) (k := 3) (82, [some (.ref 4), some (.int 4), some (.int v), some (.int w)], [], qS sw gc (q_u (q_u (q_u (q_u I 7 c v) 8 c w) 4 4 ((I 4 4) + 1)) 4 5 ((I 4 5) + 1)) J) (q_hn _ _ _ _) rfl ?_
  exact G_ret rfl rfl rfl (by rw [show I 4 4 + 1 = nI (c + 1) by rw [hc]; exact q_addP rfl rfl])
def f_mt9 (I : Nat → Nat → Int32) (x : Int32) : Int32 := if f_isNumberLaw x = 0 then (if 4 ≤ I 9 4 then 0 else 1) else if I 11 x.toNatClampNeg = 0 then 1 else 0
theorem m_mayTell9 {d : Nat} {sw : Bool} {gc : Nat} {I : Nat → Nat → Int32} {J : Nat → Nat → Int64} {x : Int32} : GM (d + 1) 22 [.ref 9, .int x] (qS sw gc I J) (some (.int (f_mt9 I x))) (qS sw gc I J) := by
  refine GM_of (by decide) (Nat.le_refl _) (Nat.le_of_ble_eq_true rfl) (by unfold f_mt9; repeat (first | rfl | split)) ?_
  refine G_st (L := 89) (k := 0) (0, [some (.ref 9), some (.int x)], [], qS sw gc I J) (q_hn _ _ _ _) rfl ?_
  refine G_st (L := 89) (k := 1) (1, [some (.ref 9), some (.int x)], [.int x], qS sw gc I J) (q_hn _ _ _ _) rfl ?_
  refine G_callS (as := [.int x]) (rest := []) rfl rfl rfl (Nat.le_of_ble_eq_true rfl) (m_isNumberLaw _) x_out_n ?_
  refine G_st (L := 89) (k := 0) (4, [some (.ref 9), some (.int x)], [.int (f_isNumberLaw x)], qS sw gc I J) (q_hn _ _ _ _) rfl ?_
  refine G_if_eq 24 rfl rfl (fun h1 => ?_) (fun h1 => ?_)
  · skip
    refine G_st (L := 89) (k := 3) (29, [some (.ref 9), some (.int x)], [.int 4, .int (I 9 4)], qS sw gc I J) (q_hn _ _ _ _) rfl ?_
    refine G_icmp_ge 36 rfl rfl (fun h2 => ?_) (fun h2 => ?_)
    · skip
      refine G_st (L := 89) (k := 1) (37, [some (.ref 9), some (.int x)], [.int 0], qS sw gc I J) (q_hn _ _ _ _) rfl ?_
      exact G_iret rfl rfl (by rw [f_mt9, if_pos h1, if_pos h2]) rfl
    · skip
      refine G_st (L := 89) (k := 2) (37, [some (.ref 9), some (.int x)], [.int 1], qS sw gc I J) (q_hn _ _ _ _) rfl ?_
      exact G_iret rfl rfl (by rw [f_mt9, if_pos h1, if_neg h2]) rfl
  · skip
    refine G_st (L := 89) (k := 3) (12, [some (.ref 9), some (.int x)], [.int x, .ref 11], qS sw gc I J) (q_hn _ _ _ _) rfl ?_
    refine G_zald (i := 11) (n := 4) rfl rfl (q_lt (by decide)) (q_in4 h1) ?_
    refine G_st (L := 89) (k := 0) (13, [some (.ref 9), some (.int x)], [.int (I 11 (Int32.toNatClampNeg x))], qS sw gc I J) (q_hn _ _ _ _) rfl ?_
    refine G_if_ne 20 rfl rfl (fun h3 => ?_) (fun h3 => ?_)
    · skip
      refine G_st (L := 89) (k := 2) (37, [some (.ref 9), some (.int x)], [.int 0], qS sw gc I J) (q_hn _ _ _ _) rfl ?_
      exact G_iret rfl rfl (by rw [f_mt9, if_neg h1, if_neg h3]) rfl
    · skip
      refine G_st (L := 89) (k := 2) (37, [some (.ref 9), some (.int x)], [.int 1], qS sw gc I J) (q_hn _ _ _ _) rfl ?_
      exact G_iret rfl rfl (by rw [f_mt9, if_neg h1, if_pos h3]) rfl
def f_ab9 (I : Nat → Nat → Int32) (v : Int32) : Int32 := if I 9 4 < 1 then 1 else if 4 < I 9 4 then 1 else if v ≤ I 12 (I 9 4 - 1).toNatClampNeg then 0 else 1
theorem m_above9 {d : Nat} {sw : Bool} {gc : Nat} {I : Nat → Nat → Int32} {J : Nat → Nat → Int64} {v : Int32} : GM d 25 [.ref 9, .int v] (qS sw gc I J) (some (.int (f_ab9 I v))) (qS sw gc I J) := by
  refine GM_of (by decide) (Nat.le_refl _) (Nat.le_of_ble_eq_true rfl) (by unfold f_ab9; repeat (first | rfl | split)) ?_
  refine G_st (L := 89) (k := 0) (0, [some (.ref 9), some (.int v)], [], qS sw gc I J) (q_hn _ _ _ _) rfl ?_
  refine G_st (L := 89) (k := 3) (5, [some (.ref 9), some (.int v)], [.int 1, .int (I 9 4)], qS sw gc I J) (q_hn _ _ _ _) rfl ?_
  refine G_icmp_lt 31 rfl rfl (fun h1 => ?_) (fun h1 => ?_)
  · skip
    refine G_st (L := 89) (k := 2) (36, [some (.ref 9), some (.int v)], [.int 1], qS sw gc I J) (q_hn _ _ _ _) rfl ?_
    exact G_iret rfl rfl (by rw [f_ab9, if_pos h1]) rfl
  · skip
    refine G_st (L := 89) (k := 3) (13, [some (.ref 9), some (.int v)], [.int 4, .int (I 9 4)], qS sw gc I J) (q_hn _ _ _ _) rfl ?_
    refine G_icmp_gt 31 rfl rfl (fun h2 => ?_) (fun h2 => ?_)
    · skip
      refine G_st (L := 89) (k := 2) (36, [some (.ref 9), some (.int v)], [.int 1], qS sw gc I J) (q_hn _ _ _ _) rfl ?_
      exact G_iret rfl rfl (by rw [f_ab9, if_neg h1, if_pos h2]) rfl
    · skip
      refine G_st (L := 89) (k := 7) (27, [some (.ref 9), some (.int v)], [.int ((I 9 4) - 1), .ref 12, .int v], qS sw gc I J) (q_hn _ _ _ _) rfl ?_
      refine G_iald (i := 12) (n := 4) rfl rfl (q_lt (by decide)) (q_in4p h1 h2) ?_
      refine G_st (L := 89) (k := 0) (28, [some (.ref 9), some (.int v)], [.int (I 12 (Int32.toNatClampNeg ((I 9 4) - 1))), .int v], qS sw gc I J) (q_hn _ _ _ _) rfl ?_
      refine G_icmp_le 35 rfl rfl (fun h3 => ?_) (fun h3 => ?_)
      · skip
        refine G_st (L := 89) (k := 1) (36, [some (.ref 9), some (.int v)], [.int 0], qS sw gc I J) (q_hn _ _ _ _) rfl ?_
        exact G_iret rfl rfl (by rw [f_ab9, if_neg h1, if_neg h2, if_pos h3]) rfl
      · skip
        refine G_st (L := 89) (k := 2) (36, [some (.ref 9), some (.int v)], [.int 1], qS sw gc I J) (q_hn _ _ _ _) rfl ?_
        exact G_iret rfl rfl (by rw [f_ab9, if_neg h1, if_neg h2, if_neg h3]) rfl
theorem f_mt01_9 (I : Nat → Nat → Int32) (x : Int32) : f_mt9 I x = 1 ∨ f_mt9 I x = 0 := by
  unfold f_mt9
  repeat (first | exact Or.inl rfl | exact Or.inr rfl | split)
theorem f_ab01_9 (I : Nat → Nat → Int32) (x : Int32) : f_ab9 I x = 1 ∨ f_ab9 I x = 0 := by
  unfold f_ab9
  repeat (first | exact Or.inl rfl | exact Or.inr rfl | split)
def x_tel9 (I : Nat → Nat → Int32) (k : Nat) (v : Int32) : Nat → Nat → Int32 := q_u (q_u (q_u I 10 k v) 11 k 1) 9 5 (I 9 5 + 1)
theorem x_tell9 {d : Nat} {sw : Bool} {gc : Nat} {I : Nat → Nat → Int32} {J : Nat → Nat → Int64} {k : Nat} {v w : Int32} (hk : k < 4) : GM (d + 1) 26 [.ref 9, .int (nI k), .int v, .int w] (qS sw gc I J) (none) (qS sw gc (x_tel9 I k v) J) := by
  refine GM_of (by decide) (Nat.le_refl _) (Nat.le_of_ble_eq_true rfl) trivial ?_
  refine G_st (L := 89) (k := 0) (0, [some (.ref 9), some (.int (nI k)), some (.int v), some (.int w)], [], qS sw gc I J) (q_hn _ _ _ _) rfl ?_
  refine G_st (L := 89) (k := 1) (1, [some (.ref 9), some (.int (nI k)), some (.int v), some (.int w)], [.int (nI k)], qS sw gc I J) (q_hn _ _ _ _) rfl ?_
  refine G_callS (as := [.int (nI k)]) (rest := []) rfl rfl rfl (Nat.le_of_ble_eq_true rfl) (GM_r (m_isNumberLaw _) (f_isNumberLaw_in hk)) x_out_n ?_
  refine G_st (L := 89) (k := 0) (4, [some (.ref 9), some (.int (nI k)), some (.int v), some (.int w)], [.int 1], qS sw gc I J) (q_hn _ _ _ _) rfl ?_
  refine G_if_eq 34 rfl rfl (fun h9 => absurd h9 (by decide)) (fun _ => ?_)
  refine G_st (L := 89) (k := 4) (13, [some (.ref 9), some (.int (nI k)), some (.int v), some (.int w)], [.int v, .int (nI k), .ref 10], qS sw gc I J) (q_hn _ _ _ _) rfl ?_
  refine G_iast (i := 10) (n := 4) rfl rfl (q_lt (by decide)) (vp_in_nI (by omega) (by decide)) ?_
  rw [q_clamp (n := k) (by omega)]
  refine G_st (L := 89) (k := 4) (20, [some (.ref 9), some (.int (nI k)), some (.int v), some (.int w)], [.int 1, .int (nI k), .ref 11], qS sw gc (q_u I 10 k v) J) (q_hn _ _ _ _) rfl ?_
  refine G_zast (i := 11) (n := 4) rfl rfl (q_lt (by decide)) (vp_in_nI (by omega) (by decide)) ?_
  rw [q_clamp (n := k) (by omega)]
  refine G_st (L := 89) (k := 2) (23, [some (.ref 9), some (.int (nI k)), some (.int v), some (.int w)], [.ref 9, .ref 9], qS sw gc (q_u (q_u I 10 k v) 11 k 1) J) (q_hn _ _ _ _) rfl ?_
  refine G_get (ci := 2) (k := 5) (i := 9) rfl rfl rfl (q_lt (by decide)) ?_
  rw [show q_av (qS sw gc (q_u (q_u I 10 k v) 11 k 1) J) 9 (q_fty 2 5) 5 = .int (I 9 5) from congrArg Value.int (show (q_u (q_u I 10 k v) 11 k 1) 9 5 = I 9 5 from (q_un _ _ (by omega)).trans (q_un _ _ (by omega)))]
  refine G_st (L := 89) (k := 4) (82, [some (.ref 9), some (.int (nI k)), some (.int v), some (.int w)], [], qS sw gc (q_u (q_u (q_u I 10 k v) 11 k 1) 9 5 ((I 9 5) + 1)) J) (q_hn _ _ _ _) rfl ?_
  exact G_ret rfl rfl rfl rfl
def x_telP9 (I : Nat → Nat → Int32) (c : Nat) (v w : Int32) : Nat → Nat → Int32 := q_u (q_u (q_u (q_u I 12 c v) 13 c w) 9 4 (nI (c + 1))) 9 5 (I 9 5 + 1)
theorem x_tellP9 {d : Nat} {sw : Bool} {gc : Nat} {I : Nat → Nat → Int32} {J : Nat → Nat → Int64} {c : Nat} {v w : Int32} (hc : I 9 4 = nI c) (hc4 : c < 4) : GM (d + 1) 26 [.ref 9, .int 4, .int v, .int w] (qS sw gc I J) none (qS sw gc (x_telP9 I c v w) J) := by
  unfold x_telP9
  refine GM_of (by decide) x_out_n (Nat.le_of_ble_eq_true rfl) trivial ?_
  refine G_st (L := 89) (k := 1) (1, [some (.ref 9), some (.int 4), some (.int v), some (.int w)], [.int 4], qS sw gc I J) (q_hn _ _ _ _) rfl ?_
  refine G_callS (as := [.int 4]) (rest := []) rfl rfl rfl (Nat.le_of_ble_eq_true rfl) (GM_r (r2 := 0) (m_isNumberLaw _) (by decide)) x_out_n ?_
  refine G_st (L := 89) (k := 0) (4, [some (.ref 9), some (.int 4), some (.int v), some (.int w)], [.int 0], qS sw gc I J) (q_hn _ _ _ _) rfl ?_
  refine G_if_eq 34 rfl rfl (fun _ => ?_) (fun h9 => absurd h9 (by decide))
  refine G_st (L := 89) (k := 3) (39, [some (.ref 9), some (.int 4), some (.int v), some (.int w)], [.int 4, .int (I 9 4)], qS sw gc I J) (q_hn _ _ _ _) rfl ?_
  rw [show I 9 4 = nI c from hc]
  refine G_icmp_ge 82 rfl rfl (fun h9 => absurd h9 (nI_ge (b := 4) (by omega) (by decide))) (fun _ => ?_)
  refine G_st (L := 89) (k := 5) (51, [some (.ref 9), some (.int 4), some (.int v), some (.int w)], [.int v, .int (I 9 4), .ref 12], qS sw gc I J) (q_hn _ _ _ _) rfl ?_
  rw [show I 9 4 = nI c from hc]
  refine G_iast (i := 12) (n := 4) rfl rfl (q_lt (by decide)) (vp_in_nI (by omega) (by decide)) ?_
  rw [q_clamp (n := c) (by omega)]
  refine G_st (L := 89) (k := 3) (57, [some (.ref 9), some (.int 4), some (.int v), some (.int w)], [.ref 9, .ref 13], qS sw gc (q_u I 12 c v) J) (q_hn _ _ _ _) rfl ?_
  refine G_get (ci := 2) (k := 4) (i := 9) rfl rfl rfl (q_lt (by decide)) ?_
  rw [show q_av (qS sw gc (q_u I 12 c v) J) 9 (q_fty 2 4) 4 = .int (I 9 4) from congrArg Value.int (show (q_u I 12 c v) 9 4 = I 9 4 from q_un _ _ (by omega))]
  refine G_st (L := 89) (k := 1) (61, [some (.ref 9), some (.int 4), some (.int v), some (.int w)], [.int w, .int (I 9 4), .ref 13], qS sw gc (q_u I 12 c v) J) (q_hn _ _ _ _) rfl ?_
  rw [show I 9 4 = nI c from hc]
  refine G_iast (i := 13) (n := 4) rfl rfl (q_lt (by decide)) (vp_in_nI (by omega) (by decide)) ?_
  rw [q_clamp (n := c) (by omega)]
  refine G_st (L := 89) (k := 2) (64, [some (.ref 9), some (.int 4), some (.int v), some (.int w)], [.ref 9, .ref 9], qS sw gc (q_u (q_u I 12 c v) 13 c w) J) (q_hn _ _ _ _) rfl ?_
  refine G_get (ci := 2) (k := 4) (i := 9) rfl rfl rfl (q_lt (by decide)) ?_
  rw [show q_av (qS sw gc (q_u (q_u I 12 c v) 13 c w) J) 9 (q_fty 2 4) 4 = .int (I 9 4) from congrArg Value.int (show (q_u (q_u I 12 c v) 13 c w) 9 4 = I 9 4 from (q_un _ _ (by omega)).trans (q_un _ _ (by omega)))]
  refine G_st (L := 89) (k := 5) (74, [some (.ref 9), some (.int 4), some (.int v), some (.int w)], [.ref 9, .ref 9], qS sw gc (q_u (q_u (q_u I 12 c v) 13 c w) 9 4 ((I 9 4) + 1)) J) (q_hn _ _ _ _) rfl ?_
  refine G_get (ci := 2) (k := 5) (i := 9) rfl rfl rfl (q_lt (by decide)) ?_
  rw [show q_av (qS sw gc (q_u (q_u (q_u I 12 c v) 13 c w) 9 4 ((I 9 4) + 1)) J) 9 (q_fty 2 5) 5 = .int (I 9 5) from congrArg Value.int (show (q_u (q_u (q_u I 12 c v) 13 c w) 9 4 ((I 9 4) + 1)) 9 5 = I 9 5 from (q_un _ _ (by omega)).trans ((q_un _ _ (by omega)).trans (q_un _ _ (by omega))))]
  refine G_st (L := 89) (k := 3) (82, [some (.ref 9), some (.int 4), some (.int v), some (.int w)], [], qS sw gc (q_u (q_u (q_u (q_u I 12 c v) 13 c w) 9 4 ((I 9 4) + 1)) 9 5 ((I 9 5) + 1)) J) (q_hn _ _ _ _) rfl ?_
  exact G_ret rfl rfl rfl (by rw [show I 9 4 + 1 = nI (c + 1) by rw [hc]; exact q_addP rfl rfl])
