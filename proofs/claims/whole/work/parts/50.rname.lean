def r_R (I : Nat → Nat → Int32) (a b c d e f : Int32) : Nat → Nat → Int32 := q_u (q_u (q_u (q_u (q_u (q_u I 62 2 a) 62 3 b) 62 4 c) 62 5 d) 62 6 e) 62 7 f
theorem r_R_un {I : Nat → Nat → Int32} {a b c d e f : Int32} {i j : Nat} (h : ¬ (i = 62 ∧ 2 ≤ j ∧ j ≤ 7)) : r_R I a b c d e f i j = I i j := by
  unfold r_R
  rw [q_un _ _ (by omega), q_un _ _ (by omega), q_un _ _ (by omega), q_un _ _ (by omega), q_un _ _ (by omega), q_un _ _ (by omega)]
theorem r_R_id (I : Nat → Nat → Int32) : r_R I (I 62 2) (I 62 3) (I 62 4) (I 62 5) (I 62 6) (I 62 7) = I := by
  unfold r_R
  rw [q_uid, q_uid, q_uid, q_uid, q_uid, q_uid]
theorem r_R_cm {I : Nat → Nat → Int32} {a b c d e f : Int32} {i k : Nat} {z : Int32} (h : ¬ (i = 62 ∧ 2 ≤ k ∧ k ≤ 7)) : q_u (r_R I a b c d e f) i k z = r_R (q_u I i k z) a b c d e f := by
  funext i' j
  by_cases h1 : i' = i ∧ j = k
  · obtain ⟨rfl, rfl⟩ := h1
    rw [q_us, r_R_un h, q_us]
  · rw [q_un _ _ h1]
    by_cases h2 : i' = 62 ∧ 2 ≤ j ∧ j ≤ 7
    · obtain ⟨rfl, h3⟩ := h2
      unfold r_R q_u
      repeat (first | rfl | split)
      all_goals (exfalso; omega)
    · rw [r_R_un h2, r_R_un h2, q_un _ _ h1]
theorem r_R2 {I : Nat → Nat → Int32} {a b c d e f z : Int32} : q_u (r_R I a b c d e f) 62 2 z = r_R I z b c d e f := by
  funext i j
  unfold r_R q_u
  by_cases h : i = 62 ∧ j = 2
  · obtain ⟨rfl, rfl⟩ := h; simp
  · rw [if_neg h]
    repeat (split <;> first | rfl | (exfalso; omega) | skip)
    all_goals simp [*] at *
theorem r_R3 {I : Nat → Nat → Int32} {a b c d e f z : Int32} : q_u (r_R I a b c d e f) 62 3 z = r_R I a z c d e f := by
  funext i j
  unfold r_R q_u
  by_cases h : i = 62 ∧ j = 3
  · obtain ⟨rfl, rfl⟩ := h; simp
  · rw [if_neg h]
    repeat (split <;> first | rfl | (exfalso; omega) | skip)
    all_goals simp [*] at *
theorem r_R4 {I : Nat → Nat → Int32} {a b c d e f z : Int32} : q_u (r_R I a b c d e f) 62 4 z = r_R I a b z d e f := by
  funext i j
  unfold r_R q_u
  by_cases h : i = 62 ∧ j = 4
  · obtain ⟨rfl, rfl⟩ := h; simp
  · rw [if_neg h]
    repeat (split <;> first | rfl | (exfalso; omega) | skip)
    all_goals simp [*] at *
theorem r_R5 {I : Nat → Nat → Int32} {a b c d e f z : Int32} : q_u (r_R I a b c d e f) 62 5 z = r_R I a b c z e f := by
  funext i j
  unfold r_R q_u
  by_cases h : i = 62 ∧ j = 5
  · obtain ⟨rfl, rfl⟩ := h; simp
  · rw [if_neg h]
    repeat (split <;> first | rfl | (exfalso; omega) | skip)
    all_goals simp [*] at *
theorem r_R6 {I : Nat → Nat → Int32} {a b c d e f z : Int32} : q_u (r_R I a b c d e f) 62 6 z = r_R I a b c d z f := by
  funext i j
  unfold r_R q_u
  by_cases h : i = 62 ∧ j = 6
  · obtain ⟨rfl, rfl⟩ := h; simp
  · rw [if_neg h]
    repeat (split <;> first | rfl | (exfalso; omega) | skip)
    all_goals simp [*] at *
theorem r_R7 {I : Nat → Nat → Int32} {a b c d e f z : Int32} : q_u (r_R I a b c d e f) 62 7 z = r_R I a b c d e z := by
  funext i j
  unfold r_R q_u
  by_cases h : i = 62 ∧ j = 7
  · obtain ⟨rfl, rfl⟩ := h; simp
  · rw [if_neg h]
    repeat (split <;> first | rfl | (exfalso; omega) | skip)
    all_goals simp [*] at *
def r_Tp (I : Nat → Nat → Int32) (t : Nat → Int32) (l : Nat) : Prop := I 62 1 = nI l ∧ l ≤ 200 ∧ (∀ p, p < l → I 63 p = t p ∧ ¬ t p < 0) ∧ t_end t l
theorem r_Tp_R {I : Nat → Nat → Int32} {t : Nat → Int32} {l : Nat} {a b c d e f : Int32} (h : r_Tp I t l) : r_Tp (r_R I a b c d e f) t l := by
  refine ⟨by rw [r_R_un (by omega)]; exact h.1, h.2.1, fun p hp => ?_, h.2.2.2⟩
  rw [r_R_un (by omega)]
  exact h.2.2.1 p hp
theorem r_look {d : Nat} {sw : Bool} {gc : Nat} {I : Nat → Nat → Int32} {J : Nat → Nat → Int64} {t : Nat → Int32} {l p : Nat} (hT : r_Tp I t l) (hp : p < 2 ^ 31) : GM d 103 [.ref 62, .int (nI p)] (qS sw gc I J) (some (.int (t p))) (qS sw gc I J) := by
  refine GM_of (by decide) (Nat.le_refl _) (Nat.le_of_ble_eq_true rfl) trivial ?_
  have hl := hT.1
  have hl2 := hT.2.1
  by_cases h : p < l
  · rw [← (hT.2.2.1 p h).1]
    refine G_st (L := 89) (k := 3) (5, [some (.ref 62), some (.int (nI p))], [.int (I 62 1), .int (nI p)], qS sw gc I J) (q_hn _ _ _ _) rfl ?_
    rw [show I 62 1 = nI l from hl]
    refine G_icmp_ge 17 rfl rfl (fun h9 => absurd h9 (nI_ge (by omega) (by omega))) (fun _ => ?_)
    refine G_st (L := 89) (k := 3) (13, [some (.ref 62), some (.int (nI p))], [.int (nI p), .ref 63], qS sw gc I J) (q_hn _ _ _ _) rfl ?_
    refine G_iald (i := 63) (n := 200) rfl rfl (q_lt (by decide)) (vp_in_nI (by omega) (by decide)) ?_
    rw [q_clamp (n := p) (by omega)]
    refine G_st (L := 89) (k := 1) (18, [some (.ref 62), some (.int (nI p))], [.int (I 63 p)], qS sw gc I J) (q_hn _ _ _ _) rfl ?_
    exact G_iret rfl rfl rfl rfl
  · rw [hT.2.2.2 p (by omega)]
    refine G_st (L := 89) (k := 3) (5, [some (.ref 62), some (.int (nI p))], [.int (I 62 1), .int (nI p)], qS sw gc I J) (q_hn _ _ _ _) rfl ?_
    rw [show I 62 1 = nI l from hl]
    refine G_icmp_ge 17 rfl rfl (fun _ => ?_) (fun h9 => absurd (nI_le (by omega) (by omega)) h9)
    refine G_st (L := 89) (k := 1) (18, [some (.ref 62), some (.int (nI p))], [.int (-1)], qS sw gc I J) (q_hn _ _ _ _) rfl ?_
    exact G_iret rfl rfl rfl rfl
theorem r_failsF {d : Nat} {sw : Bool} {gc : Nat} {I : Nat → Nat → Int32} {J : Nat → Nat → Int64} {a b c v f e x y : Int32} (hf : ¬ f = 0) : GM d 102 [.ref 62, .int x, .int y] (qS sw gc (r_R I a b c v f e) J) (none) (qS sw gc (r_R I a b c v f e) J) := by
  refine GM_of (by decide) x_out_n (Nat.le_of_ble_eq_true rfl) trivial ?_
  refine G_st (L := 89) (k := 0) (0, [some (.ref 62), some (.int x), some (.int y)], [], qS sw gc (r_R I a b c v f e) J) (q_hn _ _ _ _) rfl ?_
  refine G_st (L := 89) (k := 2) (4, [some (.ref 62), some (.int x), some (.int y)], [.int f], qS sw gc (r_R I a b c v f e) J) (q_hn _ _ _ _) rfl ?_
  refine G_if_ne 17 rfl rfl (fun _ => ?_) (fun h9 => absurd h9 hf)
  exact G_ret rfl rfl rfl rfl
theorem r_fails0 {d : Nat} {sw : Bool} {gc : Nat} {I : Nat → Nat → Int32} {J : Nat → Nat → Int64} {a b c v e x y : Int32} : GM d 102 [.ref 62, .int x, .int y] (qS sw gc (r_R I a b c v 0 e) J) (none) (qS sw gc (r_R I a b c v x y) J) := by
  refine GM_of (by decide) x_out_n (Nat.le_of_ble_eq_true rfl) trivial ?_
  refine G_st (L := 89) (k := 0) (0, [some (.ref 62), some (.int x), some (.int y)], [], qS sw gc (r_R I a b c v 0 e) J) (q_hn _ _ _ _) rfl ?_
  refine G_st (L := 89) (k := 2) (4, [some (.ref 62), some (.int x), some (.int y)], [.int 0], qS sw gc (r_R I a b c v 0 e) J) (q_hn _ _ _ _) rfl ?_
  refine G_if_ne 17 rfl rfl (fun h9 => absurd h9 (by decide)) (fun _ => ?_)
  refine G_st (L := 89) (k := 6) (17, [some (.ref 62), some (.int x), some (.int y)], [], qS sw gc (q_u (q_u (r_R I a b c v 0 e) 62 6 x) 62 7 y) J) (q_hn _ _ _ _) rfl ?_
  rw [r_R6]
  rw [r_R7]
  exact G_ret rfl rfl rfl rfl
theorem r_inP0 {d : Nat} {sw : Bool} {gc : Nat} {I : Nat → Nat → Int32} {J : Nat → Nat → Int64} {t : Nat → Int32} {l : Nat} (hT : r_Tp I t l) {q n : Nat} (hq : q ≤ n) (hn : n ≤ 900) {c v f e : Int32} (hlen : n - q = 3) : GM (d + 1) 104 [.ref 62, .int 116, .int 111, .int 112, .int 0, .int 0] (qS sw gc (r_R I (nI n) (nI q) c v f e) J) (some (.int (q_b (t_nm0 t q n)))) (qS sw gc (r_R I (nI n) (nI q) c v f e) J) := by
  refine GM_of (by decide) x_out_n (Nat.le_of_ble_eq_true rfl) q_bn ?_
  refine G_st (L := 89) (k := 0) (0, [some (.ref 62), some (.int 116), some (.int 111), some (.int 112), some (.int 0), some (.int 0), none], [], qS sw gc (r_R I (nI n) (nI q) c v f e) J) (q_hn _ _ _ _) rfl ?_
  refine G_st (L := 89) (k := 1) (2, [some (.ref 62), some (.int 116), some (.int 111), some (.int 112), some (.int 0), some (.int 0), none], [.int 0], qS sw gc (r_R I (nI n) (nI q) c v f e) J) (q_hn _ _ _ _) rfl ?_
  refine G_if_ne 9 rfl rfl (fun h9 => absurd h9 (by decide)) (fun _ => ?_)
  refine G_st (L := 89) (k := 9) (32, [some (.ref 62), some (.int 116), some (.int 111), some (.int 112), some (.int 0), some (.int 0), some (.int 3)], [.int 3, .int ((nI n) - (nI q))], qS sw gc (r_R I (nI n) (nI q) c v f e) J) (q_hn _ _ _ _) rfl ?_
  rw [show (nI n) - (nI q) = nI (n - q) from (q_subP rfl rfl (by omega))]
  refine G_icmp_ne 119 rfl rfl (fun h9 => absurd (congrArg nI hlen) h9) (fun _ => ?_)
  refine G_st (L := 89) (k := 3) (40, [some (.ref 62), some (.int 116), some (.int 111), some (.int 112), some (.int 0), some (.int 0), some (.int 3)], [.int (nI q), .ref 62], qS sw gc (r_R I (nI n) (nI q) c v f e) J) (q_hn _ _ _ _) rfl ?_
  rw [show nI q = nI q from rfl]
  refine G_callV (b := 62) (ci := 9) (as := [.int (nI q)]) (rest := []) rfl rfl rfl (q_lt (by decide)) (by decide) rfl rfl (Nat.le_of_ble_eq_true rfl) (r_look (r_Tp_R hT) (by omega)) x_out_n ?_
  refine G_st (L := 89) (k := 1) (44, [some (.ref 62), some (.int 116), some (.int 111), some (.int 112), some (.int 0), some (.int 0), some (.int 3)], [.int 116, .int (t q)], qS sw gc (r_R I (nI n) (nI q) c v f e) J) (q_hn _ _ _ _) rfl ?_
  refine G_icmp_ne 119 rfl rfl (fun h1 => ?_) (fun h1 => ?_)
  · skip
    refine G_st (L := 89) (k := 1) (120, [some (.ref 62), some (.int 116), some (.int 111), some (.int 112), some (.int 0), some (.int 0), some (.int 3)], [.int 0], qS sw gc (r_R I (nI n) (nI q) c v f e) J) (q_hn _ _ _ _) rfl ?_
    exact G_iret rfl rfl (by unfold t_nm0; rw [Nat.add_zero, show Nat.beq (n - q) 3 = true by rw [hlen]; rfl, decide_eq_false h1]; rfl) rfl
  · skip
    refine G_st (L := 89) (k := 5) (54, [some (.ref 62), some (.int 116), some (.int 111), some (.int 112), some (.int 0), some (.int 0), some (.int 3)], [.int ((nI q) + 1), .ref 62], qS sw gc (r_R I (nI n) (nI q) c v f e) J) (q_hn _ _ _ _) rfl ?_
    rw [show (nI q) + 1 = nI (q + 1) from (q_addP rfl rfl)]
    refine G_callV (b := 62) (ci := 9) (as := [.int (nI (q + 1))]) (rest := []) rfl rfl rfl (q_lt (by decide)) (by decide) rfl rfl (Nat.le_of_ble_eq_true rfl) (r_look (r_Tp_R hT) (by omega)) x_out_n ?_
    refine G_st (L := 89) (k := 1) (58, [some (.ref 62), some (.int 116), some (.int 111), some (.int 112), some (.int 0), some (.int 0), some (.int 3)], [.int 111, .int (t (q + 1))], qS sw gc (r_R I (nI n) (nI q) c v f e) J) (q_hn _ _ _ _) rfl ?_
    refine G_icmp_ne 119 rfl rfl (fun h2 => ?_) (fun h2 => ?_)
    · skip
      refine G_st (L := 89) (k := 1) (120, [some (.ref 62), some (.int 116), some (.int 111), some (.int 112), some (.int 0), some (.int 0), some (.int 3)], [.int 0], qS sw gc (r_R I (nI n) (nI q) c v f e) J) (q_hn _ _ _ _) rfl ?_
      exact G_iret rfl rfl (by unfold t_nm0; rw [Nat.add_zero, show Nat.beq (n - q) 3 = true by rw [hlen]; rfl, decide_eq_true h1, decide_eq_false h2]; rfl) rfl
    · skip
      refine G_st (L := 89) (k := 5) (68, [some (.ref 62), some (.int 116), some (.int 111), some (.int 112), some (.int 0), some (.int 0), some (.int 3)], [.int ((nI q) + 2), .ref 62], qS sw gc (r_R I (nI n) (nI q) c v f e) J) (q_hn _ _ _ _) rfl ?_
      rw [show (nI q) + 2 = nI (q + 2) from (q_addP rfl rfl)]
      refine G_callV (b := 62) (ci := 9) (as := [.int (nI (q + 2))]) (rest := []) rfl rfl rfl (q_lt (by decide)) (by decide) rfl rfl (Nat.le_of_ble_eq_true rfl) (r_look (r_Tp_R hT) (by omega)) x_out_n ?_
      refine G_st (L := 89) (k := 1) (72, [some (.ref 62), some (.int 116), some (.int 111), some (.int 112), some (.int 0), some (.int 0), some (.int 3)], [.int 112, .int (t (q + 2))], qS sw gc (r_R I (nI n) (nI q) c v f e) J) (q_hn _ _ _ _) rfl ?_
      refine G_icmp_ne 119 rfl rfl (fun h3 => ?_) (fun h3 => ?_)
      · skip
        refine G_st (L := 89) (k := 1) (120, [some (.ref 62), some (.int 116), some (.int 111), some (.int 112), some (.int 0), some (.int 0), some (.int 3)], [.int 0], qS sw gc (r_R I (nI n) (nI q) c v f e) J) (q_hn _ _ _ _) rfl ?_
        exact G_iret rfl rfl (by unfold t_nm0; rw [Nat.add_zero, show Nat.beq (n - q) 3 = true by rw [hlen]; rfl, decide_eq_true h1, decide_eq_true h2, decide_eq_false h3]; rfl) rfl
      · skip
        refine G_st (L := 89) (k := 1) (77, [some (.ref 62), some (.int 116), some (.int 111), some (.int 112), some (.int 0), some (.int 0), some (.int 3)], [.int 0], qS sw gc (r_R I (nI n) (nI q) c v f e) J) (q_hn _ _ _ _) rfl ?_
        refine G_if_eq 95 rfl rfl (fun _ => ?_) (fun h9 => absurd h9 (by decide))
        refine G_st (L := 89) (k := 1) (97, [some (.ref 62), some (.int 116), some (.int 111), some (.int 112), some (.int 0), some (.int 0), some (.int 3)], [.int 0], qS sw gc (r_R I (nI n) (nI q) c v f e) J) (q_hn _ _ _ _) rfl ?_
        refine G_if_eq 115 rfl rfl (fun _ => ?_) (fun h9 => absurd h9 (by decide))
        refine G_st (L := 89) (k := 2) (120, [some (.ref 62), some (.int 116), some (.int 111), some (.int 112), some (.int 0), some (.int 0), some (.int 3)], [.int 1], qS sw gc (r_R I (nI n) (nI q) c v f e) J) (q_hn _ _ _ _) rfl ?_
        exact G_iret rfl rfl (by unfold t_nm0; rw [Nat.add_zero, show Nat.beq (n - q) 3 = true by rw [hlen]; rfl, decide_eq_true h1, decide_eq_true h2, decide_eq_true h3]; rfl) rfl
theorem r_inN0 {d : Nat} {sw : Bool} {gc : Nat} {I : Nat → Nat → Int32} {J : Nat → Nat → Int64} {t : Nat → Int32} {l : Nat} (hT : r_Tp I t l) {q n : Nat} (hq : q ≤ n) (hn : n ≤ 900) {c v f e : Int32} (hlen : ¬ n - q = 3) : GM (d + 1) 104 [.ref 62, .int 116, .int 111, .int 112, .int 0, .int 0] (qS sw gc (r_R I (nI n) (nI q) c v f e) J) (some (.int 0)) (qS sw gc (r_R I (nI n) (nI q) c v f e) J) := by
  refine GM_of (by decide) x_out_n (Nat.le_of_ble_eq_true rfl) rfl ?_
  refine G_st (L := 89) (k := 0) (0, [some (.ref 62), some (.int 116), some (.int 111), some (.int 112), some (.int 0), some (.int 0), none], [], qS sw gc (r_R I (nI n) (nI q) c v f e) J) (q_hn _ _ _ _) rfl ?_
  refine G_st (L := 89) (k := 1) (2, [some (.ref 62), some (.int 116), some (.int 111), some (.int 112), some (.int 0), some (.int 0), none], [.int 0], qS sw gc (r_R I (nI n) (nI q) c v f e) J) (q_hn _ _ _ _) rfl ?_
  refine G_if_ne 9 rfl rfl (fun h9 => absurd h9 (by decide)) (fun _ => ?_)
  refine G_st (L := 89) (k := 9) (32, [some (.ref 62), some (.int 116), some (.int 111), some (.int 112), some (.int 0), some (.int 0), some (.int 3)], [.int 3, .int ((nI n) - (nI q))], qS sw gc (r_R I (nI n) (nI q) c v f e) J) (q_hn _ _ _ _) rfl ?_
  rw [show (nI n) - (nI q) = nI (n - q) from (q_subP rfl rfl (by omega))]
  refine G_icmp_ne 119 rfl rfl (fun _ => ?_) (fun h9 => absurd h9 (fun e9 => hlen ((nI_eq (b := 3) (by omega) (by decide)).mp e9)))
  refine G_st (L := 89) (k := 1) (120, [some (.ref 62), some (.int 116), some (.int 111), some (.int 112), some (.int 0), some (.int 0), some (.int 3)], [.int 0], qS sw gc (r_R I (nI n) (nI q) c v f e) J) (q_hn _ _ _ _) rfl ?_
  exact G_iret rfl rfl rfl rfl
theorem r_isName0 {d : Nat} {sw : Bool} {gc : Nat} {I : Nat → Nat → Int32} {J : Nat → Nat → Int64} {t : Nat → Int32} {l : Nat} (hT : r_Tp I t l) {q n : Nat} (hq : q ≤ n) (hn : n ≤ 900) {c v f e : Int32} : GM (d + 1) 104 [.ref 62, .int 116, .int 111, .int 112, .int 0, .int 0] (qS sw gc (r_R I (nI n) (nI q) c v f e) J) (some (.int (q_b (t_nm0 t q n)))) (qS sw gc (r_R I (nI n) (nI q) c v f e) J) := by
  by_cases h : n - q = 3
  · exact r_inP0 hT hq hn h
  · have e : t_nm0 t q n = false := by
      unfold t_nm0
      rw [q_beqF h]; rfl
    rw [e]
    exact r_inN0 hT hq hn h
theorem t_nm0_1 {t : Nat → Int32} {q n : Nat} (h : t_nm0 t q n = true) : n - q = 3 ∧ t q = 116 := by
  unfold t_nm0 at h
  cases h1 : Nat.beq (n - q) 3 with
  | false => rw [h1] at h; cases h
  | true =>
    rw [h1] at h
    cases h2 : decide (t (q + 0) = 116) with
    | false => rw [h2] at h; cases h
    | true => exact ⟨Nat.eq_of_beq_eq_true h1, of_decide_eq_true h2⟩
theorem r_inP1 {d : Nat} {sw : Bool} {gc : Nat} {I : Nat → Nat → Int32} {J : Nat → Nat → Int64} {t : Nat → Int32} {l : Nat} (hT : r_Tp I t l) {q n : Nat} (hq : q ≤ n) (hn : n ≤ 900) {c v f e : Int32} (hlen : n - q = 4) : GM (d + 1) 104 [.ref 62, .int 104, .int 97, .int 110, .int 103, .int 0] (qS sw gc (r_R I (nI n) (nI q) c v f e) J) (some (.int (q_b (t_nm1 t q n)))) (qS sw gc (r_R I (nI n) (nI q) c v f e) J) := by
  refine GM_of (by decide) x_out_n (Nat.le_of_ble_eq_true rfl) q_bn ?_
  refine G_st (L := 89) (k := 0) (0, [some (.ref 62), some (.int 104), some (.int 97), some (.int 110), some (.int 103), some (.int 0), none], [], qS sw gc (r_R I (nI n) (nI q) c v f e) J) (q_hn _ _ _ _) rfl ?_
  refine G_st (L := 89) (k := 1) (2, [some (.ref 62), some (.int 104), some (.int 97), some (.int 110), some (.int 103), some (.int 0), none], [.int 103], qS sw gc (r_R I (nI n) (nI q) c v f e) J) (q_hn _ _ _ _) rfl ?_
  refine G_if_ne 9 rfl rfl (fun _ => ?_) (fun h9 => absurd h9 (by decide))
  refine G_st (L := 89) (k := 1) (11, [some (.ref 62), some (.int 104), some (.int 97), some (.int 110), some (.int 103), some (.int 0), none], [.int 0], qS sw gc (r_R I (nI n) (nI q) c v f e) J) (q_hn _ _ _ _) rfl ?_
  refine G_if_ne 18 rfl rfl (fun h9 => absurd h9 (by decide)) (fun _ => ?_)
  refine G_st (L := 89) (k := 9) (32, [some (.ref 62), some (.int 104), some (.int 97), some (.int 110), some (.int 103), some (.int 0), some (.int 4)], [.int 4, .int ((nI n) - (nI q))], qS sw gc (r_R I (nI n) (nI q) c v f e) J) (q_hn _ _ _ _) rfl ?_
  rw [show (nI n) - (nI q) = nI (n - q) from (q_subP rfl rfl (by omega))]
  refine G_icmp_ne 119 rfl rfl (fun h9 => absurd (congrArg nI hlen) h9) (fun _ => ?_)
  refine G_st (L := 89) (k := 3) (40, [some (.ref 62), some (.int 104), some (.int 97), some (.int 110), some (.int 103), some (.int 0), some (.int 4)], [.int (nI q), .ref 62], qS sw gc (r_R I (nI n) (nI q) c v f e) J) (q_hn _ _ _ _) rfl ?_
  rw [show nI q = nI q from rfl]
  refine G_callV (b := 62) (ci := 9) (as := [.int (nI q)]) (rest := []) rfl rfl rfl (q_lt (by decide)) (by decide) rfl rfl (Nat.le_of_ble_eq_true rfl) (r_look (r_Tp_R hT) (by omega)) x_out_n ?_
  refine G_st (L := 89) (k := 1) (44, [some (.ref 62), some (.int 104), some (.int 97), some (.int 110), some (.int 103), some (.int 0), some (.int 4)], [.int 104, .int (t q)], qS sw gc (r_R I (nI n) (nI q) c v f e) J) (q_hn _ _ _ _) rfl ?_
  refine G_icmp_ne 119 rfl rfl (fun h1 => ?_) (fun h1 => ?_)
  · skip
    refine G_st (L := 89) (k := 1) (120, [some (.ref 62), some (.int 104), some (.int 97), some (.int 110), some (.int 103), some (.int 0), some (.int 4)], [.int 0], qS sw gc (r_R I (nI n) (nI q) c v f e) J) (q_hn _ _ _ _) rfl ?_
    exact G_iret rfl rfl (by unfold t_nm1; rw [Nat.add_zero, show Nat.beq (n - q) 4 = true by rw [hlen]; rfl, decide_eq_false h1]; rfl) rfl
  · skip
    refine G_st (L := 89) (k := 5) (54, [some (.ref 62), some (.int 104), some (.int 97), some (.int 110), some (.int 103), some (.int 0), some (.int 4)], [.int ((nI q) + 1), .ref 62], qS sw gc (r_R I (nI n) (nI q) c v f e) J) (q_hn _ _ _ _) rfl ?_
    rw [show (nI q) + 1 = nI (q + 1) from (q_addP rfl rfl)]
    refine G_callV (b := 62) (ci := 9) (as := [.int (nI (q + 1))]) (rest := []) rfl rfl rfl (q_lt (by decide)) (by decide) rfl rfl (Nat.le_of_ble_eq_true rfl) (r_look (r_Tp_R hT) (by omega)) x_out_n ?_
    refine G_st (L := 89) (k := 1) (58, [some (.ref 62), some (.int 104), some (.int 97), some (.int 110), some (.int 103), some (.int 0), some (.int 4)], [.int 97, .int (t (q + 1))], qS sw gc (r_R I (nI n) (nI q) c v f e) J) (q_hn _ _ _ _) rfl ?_
    refine G_icmp_ne 119 rfl rfl (fun h2 => ?_) (fun h2 => ?_)
    · skip
      refine G_st (L := 89) (k := 1) (120, [some (.ref 62), some (.int 104), some (.int 97), some (.int 110), some (.int 103), some (.int 0), some (.int 4)], [.int 0], qS sw gc (r_R I (nI n) (nI q) c v f e) J) (q_hn _ _ _ _) rfl ?_
      exact G_iret rfl rfl (by unfold t_nm1; rw [Nat.add_zero, show Nat.beq (n - q) 4 = true by rw [hlen]; rfl, decide_eq_true h1, decide_eq_false h2]; rfl) rfl
    · skip
      refine G_st (L := 89) (k := 5) (68, [some (.ref 62), some (.int 104), some (.int 97), some (.int 110), some (.int 103), some (.int 0), some (.int 4)], [.int ((nI q) + 2), .ref 62], qS sw gc (r_R I (nI n) (nI q) c v f e) J) (q_hn _ _ _ _) rfl ?_
      rw [show (nI q) + 2 = nI (q + 2) from (q_addP rfl rfl)]
      refine G_callV (b := 62) (ci := 9) (as := [.int (nI (q + 2))]) (rest := []) rfl rfl rfl (q_lt (by decide)) (by decide) rfl rfl (Nat.le_of_ble_eq_true rfl) (r_look (r_Tp_R hT) (by omega)) x_out_n ?_
      refine G_st (L := 89) (k := 1) (72, [some (.ref 62), some (.int 104), some (.int 97), some (.int 110), some (.int 103), some (.int 0), some (.int 4)], [.int 110, .int (t (q + 2))], qS sw gc (r_R I (nI n) (nI q) c v f e) J) (q_hn _ _ _ _) rfl ?_
      refine G_icmp_ne 119 rfl rfl (fun h3 => ?_) (fun h3 => ?_)
      · skip
        refine G_st (L := 89) (k := 1) (120, [some (.ref 62), some (.int 104), some (.int 97), some (.int 110), some (.int 103), some (.int 0), some (.int 4)], [.int 0], qS sw gc (r_R I (nI n) (nI q) c v f e) J) (q_hn _ _ _ _) rfl ?_
        exact G_iret rfl rfl (by unfold t_nm1; rw [Nat.add_zero, show Nat.beq (n - q) 4 = true by rw [hlen]; rfl, decide_eq_true h1, decide_eq_true h2, decide_eq_false h3]; rfl) rfl
      · skip
        refine G_st (L := 89) (k := 1) (77, [some (.ref 62), some (.int 104), some (.int 97), some (.int 110), some (.int 103), some (.int 0), some (.int 4)], [.int 103], qS sw gc (r_R I (nI n) (nI q) c v f e) J) (q_hn _ _ _ _) rfl ?_
        refine G_if_eq 95 rfl rfl (fun h9 => absurd h9 (by decide)) (fun _ => ?_)
        refine G_st (L := 89) (k := 5) (87, [some (.ref 62), some (.int 104), some (.int 97), some (.int 110), some (.int 103), some (.int 0), some (.int 4)], [.int ((nI q) + 3), .ref 62], qS sw gc (r_R I (nI n) (nI q) c v f e) J) (q_hn _ _ _ _) rfl ?_
        rw [show (nI q) + 3 = nI (q + 3) from (q_addP rfl rfl)]
        refine G_callV (b := 62) (ci := 9) (as := [.int (nI (q + 3))]) (rest := []) rfl rfl rfl (q_lt (by decide)) (by decide) rfl rfl (Nat.le_of_ble_eq_true rfl) (r_look (r_Tp_R hT) (by omega)) x_out_n ?_
        refine G_st (L := 89) (k := 1) (92, [some (.ref 62), some (.int 104), some (.int 97), some (.int 110), some (.int 103), some (.int 0), some (.int 4)], [.int 103, .int (t (q + 3))], qS sw gc (r_R I (nI n) (nI q) c v f e) J) (q_hn _ _ _ _) rfl ?_
        refine G_icmp_ne 119 rfl rfl (fun h4 => ?_) (fun h4 => ?_)
        · skip
          refine G_st (L := 89) (k := 1) (120, [some (.ref 62), some (.int 104), some (.int 97), some (.int 110), some (.int 103), some (.int 0), some (.int 4)], [.int 0], qS sw gc (r_R I (nI n) (nI q) c v f e) J) (q_hn _ _ _ _) rfl ?_
          exact G_iret rfl rfl (by unfold t_nm1; rw [Nat.add_zero, show Nat.beq (n - q) 4 = true by rw [hlen]; rfl, decide_eq_true h1, decide_eq_true h2, decide_eq_true h3, decide_eq_false h4]; rfl) rfl
        · skip
          refine G_st (L := 89) (k := 1) (97, [some (.ref 62), some (.int 104), some (.int 97), some (.int 110), some (.int 103), some (.int 0), some (.int 4)], [.int 0], qS sw gc (r_R I (nI n) (nI q) c v f e) J) (q_hn _ _ _ _) rfl ?_
          refine G_if_eq 115 rfl rfl (fun _ => ?_) (fun h9 => absurd h9 (by decide))
          refine G_st (L := 89) (k := 2) (120, [some (.ref 62), some (.int 104), some (.int 97), some (.int 110), some (.int 103), some (.int 0), some (.int 4)], [.int 1], qS sw gc (r_R I (nI n) (nI q) c v f e) J) (q_hn _ _ _ _) rfl ?_
          exact G_iret rfl rfl (by unfold t_nm1; rw [Nat.add_zero, show Nat.beq (n - q) 4 = true by rw [hlen]; rfl, decide_eq_true h1, decide_eq_true h2, decide_eq_true h3, decide_eq_true h4]; rfl) rfl
theorem r_inN1 {d : Nat} {sw : Bool} {gc : Nat} {I : Nat → Nat → Int32} {J : Nat → Nat → Int64} {t : Nat → Int32} {l : Nat} (hT : r_Tp I t l) {q n : Nat} (hq : q ≤ n) (hn : n ≤ 900) {c v f e : Int32} (hlen : ¬ n - q = 4) : GM (d + 1) 104 [.ref 62, .int 104, .int 97, .int 110, .int 103, .int 0] (qS sw gc (r_R I (nI n) (nI q) c v f e) J) (some (.int 0)) (qS sw gc (r_R I (nI n) (nI q) c v f e) J) := by
  refine GM_of (by decide) x_out_n (Nat.le_of_ble_eq_true rfl) rfl ?_
  refine G_st (L := 89) (k := 0) (0, [some (.ref 62), some (.int 104), some (.int 97), some (.int 110), some (.int 103), some (.int 0), none], [], qS sw gc (r_R I (nI n) (nI q) c v f e) J) (q_hn _ _ _ _) rfl ?_
  refine G_st (L := 89) (k := 1) (2, [some (.ref 62), some (.int 104), some (.int 97), some (.int 110), some (.int 103), some (.int 0), none], [.int 103], qS sw gc (r_R I (nI n) (nI q) c v f e) J) (q_hn _ _ _ _) rfl ?_
  refine G_if_ne 9 rfl rfl (fun _ => ?_) (fun h9 => absurd h9 (by decide))
  refine G_st (L := 89) (k := 1) (11, [some (.ref 62), some (.int 104), some (.int 97), some (.int 110), some (.int 103), some (.int 0), none], [.int 0], qS sw gc (r_R I (nI n) (nI q) c v f e) J) (q_hn _ _ _ _) rfl ?_
  refine G_if_ne 18 rfl rfl (fun h9 => absurd h9 (by decide)) (fun _ => ?_)
  refine G_st (L := 89) (k := 9) (32, [some (.ref 62), some (.int 104), some (.int 97), some (.int 110), some (.int 103), some (.int 0), some (.int 4)], [.int 4, .int ((nI n) - (nI q))], qS sw gc (r_R I (nI n) (nI q) c v f e) J) (q_hn _ _ _ _) rfl ?_
  rw [show (nI n) - (nI q) = nI (n - q) from (q_subP rfl rfl (by omega))]
  refine G_icmp_ne 119 rfl rfl (fun _ => ?_) (fun h9 => absurd h9 (fun e9 => hlen ((nI_eq (b := 4) (by omega) (by decide)).mp e9)))
  refine G_st (L := 89) (k := 1) (120, [some (.ref 62), some (.int 104), some (.int 97), some (.int 110), some (.int 103), some (.int 0), some (.int 4)], [.int 0], qS sw gc (r_R I (nI n) (nI q) c v f e) J) (q_hn _ _ _ _) rfl ?_
  exact G_iret rfl rfl rfl rfl
theorem r_isName1 {d : Nat} {sw : Bool} {gc : Nat} {I : Nat → Nat → Int32} {J : Nat → Nat → Int64} {t : Nat → Int32} {l : Nat} (hT : r_Tp I t l) {q n : Nat} (hq : q ≤ n) (hn : n ≤ 900) {c v f e : Int32} : GM (d + 1) 104 [.ref 62, .int 104, .int 97, .int 110, .int 103, .int 0] (qS sw gc (r_R I (nI n) (nI q) c v f e) J) (some (.int (q_b (t_nm1 t q n)))) (qS sw gc (r_R I (nI n) (nI q) c v f e) J) := by
  by_cases h : n - q = 4
  · exact r_inP1 hT hq hn h
  · have e : t_nm1 t q n = false := by
      unfold t_nm1
      rw [q_beqF h]; rfl
    rw [e]
    exact r_inN1 hT hq hn h
theorem t_nm1_1 {t : Nat → Int32} {q n : Nat} (h : t_nm1 t q n = true) : n - q = 4 ∧ t q = 104 := by
  unfold t_nm1 at h
  cases h1 : Nat.beq (n - q) 4 with
  | false => rw [h1] at h; cases h
  | true =>
    rw [h1] at h
    cases h2 : decide (t (q + 0) = 104) with
    | false => rw [h2] at h; cases h
    | true => exact ⟨Nat.eq_of_beq_eq_true h1, of_decide_eq_true h2⟩
theorem r_inP2 {d : Nat} {sw : Bool} {gc : Nat} {I : Nat → Nat → Int32} {J : Nat → Nat → Int64} {t : Nat → Int32} {l : Nat} (hT : r_Tp I t l) {q n : Nat} (hq : q ≤ n) (hn : n ≤ 900) {c v f e : Int32} (hlen : n - q = 4) : GM (d + 1) 104 [.ref 62, .int 116, .int 111, .int 111, .int 108, .int 0] (qS sw gc (r_R I (nI n) (nI q) c v f e) J) (some (.int (q_b (t_nm2 t q n)))) (qS sw gc (r_R I (nI n) (nI q) c v f e) J) := by
  refine GM_of (by decide) x_out_n (Nat.le_of_ble_eq_true rfl) q_bn ?_
  refine G_st (L := 89) (k := 0) (0, [some (.ref 62), some (.int 116), some (.int 111), some (.int 111), some (.int 108), some (.int 0), none], [], qS sw gc (r_R I (nI n) (nI q) c v f e) J) (q_hn _ _ _ _) rfl ?_
  refine G_st (L := 89) (k := 1) (2, [some (.ref 62), some (.int 116), some (.int 111), some (.int 111), some (.int 108), some (.int 0), none], [.int 108], qS sw gc (r_R I (nI n) (nI q) c v f e) J) (q_hn _ _ _ _) rfl ?_
  refine G_if_ne 9 rfl rfl (fun _ => ?_) (fun h9 => absurd h9 (by decide))
  refine G_st (L := 89) (k := 1) (11, [some (.ref 62), some (.int 116), some (.int 111), some (.int 111), some (.int 108), some (.int 0), none], [.int 0], qS sw gc (r_R I (nI n) (nI q) c v f e) J) (q_hn _ _ _ _) rfl ?_
  refine G_if_ne 18 rfl rfl (fun h9 => absurd h9 (by decide)) (fun _ => ?_)
  refine G_st (L := 89) (k := 9) (32, [some (.ref 62), some (.int 116), some (.int 111), some (.int 111), some (.int 108), some (.int 0), some (.int 4)], [.int 4, .int ((nI n) - (nI q))], qS sw gc (r_R I (nI n) (nI q) c v f e) J) (q_hn _ _ _ _) rfl ?_
  rw [show (nI n) - (nI q) = nI (n - q) from (q_subP rfl rfl (by omega))]
  refine G_icmp_ne 119 rfl rfl (fun h9 => absurd (congrArg nI hlen) h9) (fun _ => ?_)
  refine G_st (L := 89) (k := 3) (40, [some (.ref 62), some (.int 116), some (.int 111), some (.int 111), some (.int 108), some (.int 0), some (.int 4)], [.int (nI q), .ref 62], qS sw gc (r_R I (nI n) (nI q) c v f e) J) (q_hn _ _ _ _) rfl ?_
  rw [show nI q = nI q from rfl]
  refine G_callV (b := 62) (ci := 9) (as := [.int (nI q)]) (rest := []) rfl rfl rfl (q_lt (by decide)) (by decide) rfl rfl (Nat.le_of_ble_eq_true rfl) (r_look (r_Tp_R hT) (by omega)) x_out_n ?_
  refine G_st (L := 89) (k := 1) (44, [some (.ref 62), some (.int 116), some (.int 111), some (.int 111), some (.int 108), some (.int 0), some (.int 4)], [.int 116, .int (t q)], qS sw gc (r_R I (nI n) (nI q) c v f e) J) (q_hn _ _ _ _) rfl ?_
  refine G_icmp_ne 119 rfl rfl (fun h1 => ?_) (fun h1 => ?_)
  · skip
    refine G_st (L := 89) (k := 1) (120, [some (.ref 62), some (.int 116), some (.int 111), some (.int 111), some (.int 108), some (.int 0), some (.int 4)], [.int 0], qS sw gc (r_R I (nI n) (nI q) c v f e) J) (q_hn _ _ _ _) rfl ?_
    exact G_iret rfl rfl (by unfold t_nm2; rw [Nat.add_zero, show Nat.beq (n - q) 4 = true by rw [hlen]; rfl, decide_eq_false h1]; rfl) rfl
  · skip
    refine G_st (L := 89) (k := 5) (54, [some (.ref 62), some (.int 116), some (.int 111), some (.int 111), some (.int 108), some (.int 0), some (.int 4)], [.int ((nI q) + 1), .ref 62], qS sw gc (r_R I (nI n) (nI q) c v f e) J) (q_hn _ _ _ _) rfl ?_
    rw [show (nI q) + 1 = nI (q + 1) from (q_addP rfl rfl)]
    refine G_callV (b := 62) (ci := 9) (as := [.int (nI (q + 1))]) (rest := []) rfl rfl rfl (q_lt (by decide)) (by decide) rfl rfl (Nat.le_of_ble_eq_true rfl) (r_look (r_Tp_R hT) (by omega)) x_out_n ?_
    refine G_st (L := 89) (k := 1) (58, [some (.ref 62), some (.int 116), some (.int 111), some (.int 111), some (.int 108), some (.int 0), some (.int 4)], [.int 111, .int (t (q + 1))], qS sw gc (r_R I (nI n) (nI q) c v f e) J) (q_hn _ _ _ _) rfl ?_
    refine G_icmp_ne 119 rfl rfl (fun h2 => ?_) (fun h2 => ?_)
    · skip
      refine G_st (L := 89) (k := 1) (120, [some (.ref 62), some (.int 116), some (.int 111), some (.int 111), some (.int 108), some (.int 0), some (.int 4)], [.int 0], qS sw gc (r_R I (nI n) (nI q) c v f e) J) (q_hn _ _ _ _) rfl ?_
      exact G_iret rfl rfl (by unfold t_nm2; rw [Nat.add_zero, show Nat.beq (n - q) 4 = true by rw [hlen]; rfl, decide_eq_true h1, decide_eq_false h2]; rfl) rfl
    · skip
      refine G_st (L := 89) (k := 5) (68, [some (.ref 62), some (.int 116), some (.int 111), some (.int 111), some (.int 108), some (.int 0), some (.int 4)], [.int ((nI q) + 2), .ref 62], qS sw gc (r_R I (nI n) (nI q) c v f e) J) (q_hn _ _ _ _) rfl ?_
      rw [show (nI q) + 2 = nI (q + 2) from (q_addP rfl rfl)]
      refine G_callV (b := 62) (ci := 9) (as := [.int (nI (q + 2))]) (rest := []) rfl rfl rfl (q_lt (by decide)) (by decide) rfl rfl (Nat.le_of_ble_eq_true rfl) (r_look (r_Tp_R hT) (by omega)) x_out_n ?_
      refine G_st (L := 89) (k := 1) (72, [some (.ref 62), some (.int 116), some (.int 111), some (.int 111), some (.int 108), some (.int 0), some (.int 4)], [.int 111, .int (t (q + 2))], qS sw gc (r_R I (nI n) (nI q) c v f e) J) (q_hn _ _ _ _) rfl ?_
      refine G_icmp_ne 119 rfl rfl (fun h3 => ?_) (fun h3 => ?_)
      · skip
        refine G_st (L := 89) (k := 1) (120, [some (.ref 62), some (.int 116), some (.int 111), some (.int 111), some (.int 108), some (.int 0), some (.int 4)], [.int 0], qS sw gc (r_R I (nI n) (nI q) c v f e) J) (q_hn _ _ _ _) rfl ?_
        exact G_iret rfl rfl (by unfold t_nm2; rw [Nat.add_zero, show Nat.beq (n - q) 4 = true by rw [hlen]; rfl, decide_eq_true h1, decide_eq_true h2, decide_eq_false h3]; rfl) rfl
      · skip
        refine G_st (L := 89) (k := 1) (77, [some (.ref 62), some (.int 116), some (.int 111), some (.int 111), some (.int 108), some (.int 0), some (.int 4)], [.int 108], qS sw gc (r_R I (nI n) (nI q) c v f e) J) (q_hn _ _ _ _) rfl ?_
        refine G_if_eq 95 rfl rfl (fun h9 => absurd h9 (by decide)) (fun _ => ?_)
        refine G_st (L := 89) (k := 5) (87, [some (.ref 62), some (.int 116), some (.int 111), some (.int 111), some (.int 108), some (.int 0), some (.int 4)], [.int ((nI q) + 3), .ref 62], qS sw gc (r_R I (nI n) (nI q) c v f e) J) (q_hn _ _ _ _) rfl ?_
        rw [show (nI q) + 3 = nI (q + 3) from (q_addP rfl rfl)]
        refine G_callV (b := 62) (ci := 9) (as := [.int (nI (q + 3))]) (rest := []) rfl rfl rfl (q_lt (by decide)) (by decide) rfl rfl (Nat.le_of_ble_eq_true rfl) (r_look (r_Tp_R hT) (by omega)) x_out_n ?_
        refine G_st (L := 89) (k := 1) (92, [some (.ref 62), some (.int 116), some (.int 111), some (.int 111), some (.int 108), some (.int 0), some (.int 4)], [.int 108, .int (t (q + 3))], qS sw gc (r_R I (nI n) (nI q) c v f e) J) (q_hn _ _ _ _) rfl ?_
        refine G_icmp_ne 119 rfl rfl (fun h4 => ?_) (fun h4 => ?_)
        · skip
          refine G_st (L := 89) (k := 1) (120, [some (.ref 62), some (.int 116), some (.int 111), some (.int 111), some (.int 108), some (.int 0), some (.int 4)], [.int 0], qS sw gc (r_R I (nI n) (nI q) c v f e) J) (q_hn _ _ _ _) rfl ?_
          exact G_iret rfl rfl (by unfold t_nm2; rw [Nat.add_zero, show Nat.beq (n - q) 4 = true by rw [hlen]; rfl, decide_eq_true h1, decide_eq_true h2, decide_eq_true h3, decide_eq_false h4]; rfl) rfl
        · skip
          refine G_st (L := 89) (k := 1) (97, [some (.ref 62), some (.int 116), some (.int 111), some (.int 111), some (.int 108), some (.int 0), some (.int 4)], [.int 0], qS sw gc (r_R I (nI n) (nI q) c v f e) J) (q_hn _ _ _ _) rfl ?_
          refine G_if_eq 115 rfl rfl (fun _ => ?_) (fun h9 => absurd h9 (by decide))
          refine G_st (L := 89) (k := 2) (120, [some (.ref 62), some (.int 116), some (.int 111), some (.int 111), some (.int 108), some (.int 0), some (.int 4)], [.int 1], qS sw gc (r_R I (nI n) (nI q) c v f e) J) (q_hn _ _ _ _) rfl ?_
          exact G_iret rfl rfl (by unfold t_nm2; rw [Nat.add_zero, show Nat.beq (n - q) 4 = true by rw [hlen]; rfl, decide_eq_true h1, decide_eq_true h2, decide_eq_true h3, decide_eq_true h4]; rfl) rfl
theorem r_inN2 {d : Nat} {sw : Bool} {gc : Nat} {I : Nat → Nat → Int32} {J : Nat → Nat → Int64} {t : Nat → Int32} {l : Nat} (hT : r_Tp I t l) {q n : Nat} (hq : q ≤ n) (hn : n ≤ 900) {c v f e : Int32} (hlen : ¬ n - q = 4) : GM (d + 1) 104 [.ref 62, .int 116, .int 111, .int 111, .int 108, .int 0] (qS sw gc (r_R I (nI n) (nI q) c v f e) J) (some (.int 0)) (qS sw gc (r_R I (nI n) (nI q) c v f e) J) := by
  refine GM_of (by decide) x_out_n (Nat.le_of_ble_eq_true rfl) rfl ?_
  refine G_st (L := 89) (k := 0) (0, [some (.ref 62), some (.int 116), some (.int 111), some (.int 111), some (.int 108), some (.int 0), none], [], qS sw gc (r_R I (nI n) (nI q) c v f e) J) (q_hn _ _ _ _) rfl ?_
  refine G_st (L := 89) (k := 1) (2, [some (.ref 62), some (.int 116), some (.int 111), some (.int 111), some (.int 108), some (.int 0), none], [.int 108], qS sw gc (r_R I (nI n) (nI q) c v f e) J) (q_hn _ _ _ _) rfl ?_
  refine G_if_ne 9 rfl rfl (fun _ => ?_) (fun h9 => absurd h9 (by decide))
  refine G_st (L := 89) (k := 1) (11, [some (.ref 62), some (.int 116), some (.int 111), some (.int 111), some (.int 108), some (.int 0), none], [.int 0], qS sw gc (r_R I (nI n) (nI q) c v f e) J) (q_hn _ _ _ _) rfl ?_
  refine G_if_ne 18 rfl rfl (fun h9 => absurd h9 (by decide)) (fun _ => ?_)
  refine G_st (L := 89) (k := 9) (32, [some (.ref 62), some (.int 116), some (.int 111), some (.int 111), some (.int 108), some (.int 0), some (.int 4)], [.int 4, .int ((nI n) - (nI q))], qS sw gc (r_R I (nI n) (nI q) c v f e) J) (q_hn _ _ _ _) rfl ?_
  rw [show (nI n) - (nI q) = nI (n - q) from (q_subP rfl rfl (by omega))]
  refine G_icmp_ne 119 rfl rfl (fun _ => ?_) (fun h9 => absurd h9 (fun e9 => hlen ((nI_eq (b := 4) (by omega) (by decide)).mp e9)))
  refine G_st (L := 89) (k := 1) (120, [some (.ref 62), some (.int 116), some (.int 111), some (.int 111), some (.int 108), some (.int 0), some (.int 4)], [.int 0], qS sw gc (r_R I (nI n) (nI q) c v f e) J) (q_hn _ _ _ _) rfl ?_
  exact G_iret rfl rfl rfl rfl
theorem r_isName2 {d : Nat} {sw : Bool} {gc : Nat} {I : Nat → Nat → Int32} {J : Nat → Nat → Int64} {t : Nat → Int32} {l : Nat} (hT : r_Tp I t l) {q n : Nat} (hq : q ≤ n) (hn : n ≤ 900) {c v f e : Int32} : GM (d + 1) 104 [.ref 62, .int 116, .int 111, .int 111, .int 108, .int 0] (qS sw gc (r_R I (nI n) (nI q) c v f e) J) (some (.int (q_b (t_nm2 t q n)))) (qS sw gc (r_R I (nI n) (nI q) c v f e) J) := by
  by_cases h : n - q = 4
  · exact r_inP2 hT hq hn h
  · have e : t_nm2 t q n = false := by
      unfold t_nm2
      rw [q_beqF h]; rfl
    rw [e]
    exact r_inN2 hT hq hn h
theorem t_nm2_1 {t : Nat → Int32} {q n : Nat} (h : t_nm2 t q n = true) : n - q = 4 ∧ t q = 116 := by
  unfold t_nm2 at h
  cases h1 : Nat.beq (n - q) 4 with
  | false => rw [h1] at h; cases h
  | true =>
    rw [h1] at h
    cases h2 : decide (t (q + 0) = 116) with
    | false => rw [h2] at h; cases h
    | true => exact ⟨Nat.eq_of_beq_eq_true h1, of_decide_eq_true h2⟩
theorem r_inP3 {d : Nat} {sw : Bool} {gc : Nat} {I : Nat → Nat → Int32} {J : Nat → Nat → Int64} {t : Nat → Int32} {l : Nat} (hT : r_Tp I t l) {q n : Nat} (hq : q ≤ n) (hn : n ≤ 900) {c v f e : Int32} (hlen : n - q = 4) : GM (d + 1) 104 [.ref 62, .int 99, .int 108, .int 117, .int 98, .int 0] (qS sw gc (r_R I (nI n) (nI q) c v f e) J) (some (.int (q_b (t_nm3 t q n)))) (qS sw gc (r_R I (nI n) (nI q) c v f e) J) := by
  refine GM_of (by decide) x_out_n (Nat.le_of_ble_eq_true rfl) q_bn ?_
  refine G_st (L := 89) (k := 0) (0, [some (.ref 62), some (.int 99), some (.int 108), some (.int 117), some (.int 98), some (.int 0), none], [], qS sw gc (r_R I (nI n) (nI q) c v f e) J) (q_hn _ _ _ _) rfl ?_
  refine G_st (L := 89) (k := 1) (2, [some (.ref 62), some (.int 99), some (.int 108), some (.int 117), some (.int 98), some (.int 0), none], [.int 98], qS sw gc (r_R I (nI n) (nI q) c v f e) J) (q_hn _ _ _ _) rfl ?_
  refine G_if_ne 9 rfl rfl (fun _ => ?_) (fun h9 => absurd h9 (by decide))
  refine G_st (L := 89) (k := 1) (11, [some (.ref 62), some (.int 99), some (.int 108), some (.int 117), some (.int 98), some (.int 0), none], [.int 0], qS sw gc (r_R I (nI n) (nI q) c v f e) J) (q_hn _ _ _ _) rfl ?_
  refine G_if_ne 18 rfl rfl (fun h9 => absurd h9 (by decide)) (fun _ => ?_)
  refine G_st (L := 89) (k := 9) (32, [some (.ref 62), some (.int 99), some (.int 108), some (.int 117), some (.int 98), some (.int 0), some (.int 4)], [.int 4, .int ((nI n) - (nI q))], qS sw gc (r_R I (nI n) (nI q) c v f e) J) (q_hn _ _ _ _) rfl ?_
  rw [show (nI n) - (nI q) = nI (n - q) from (q_subP rfl rfl (by omega))]
  refine G_icmp_ne 119 rfl rfl (fun h9 => absurd (congrArg nI hlen) h9) (fun _ => ?_)
  refine G_st (L := 89) (k := 3) (40, [some (.ref 62), some (.int 99), some (.int 108), some (.int 117), some (.int 98), some (.int 0), some (.int 4)], [.int (nI q), .ref 62], qS sw gc (r_R I (nI n) (nI q) c v f e) J) (q_hn _ _ _ _) rfl ?_
  rw [show nI q = nI q from rfl]
  refine G_callV (b := 62) (ci := 9) (as := [.int (nI q)]) (rest := []) rfl rfl rfl (q_lt (by decide)) (by decide) rfl rfl (Nat.le_of_ble_eq_true rfl) (r_look (r_Tp_R hT) (by omega)) x_out_n ?_
  refine G_st (L := 89) (k := 1) (44, [some (.ref 62), some (.int 99), some (.int 108), some (.int 117), some (.int 98), some (.int 0), some (.int 4)], [.int 99, .int (t q)], qS sw gc (r_R I (nI n) (nI q) c v f e) J) (q_hn _ _ _ _) rfl ?_
  refine G_icmp_ne 119 rfl rfl (fun h1 => ?_) (fun h1 => ?_)
  · skip
    refine G_st (L := 89) (k := 1) (120, [some (.ref 62), some (.int 99), some (.int 108), some (.int 117), some (.int 98), some (.int 0), some (.int 4)], [.int 0], qS sw gc (r_R I (nI n) (nI q) c v f e) J) (q_hn _ _ _ _) rfl ?_
    exact G_iret rfl rfl (by unfold t_nm3; rw [Nat.add_zero, show Nat.beq (n - q) 4 = true by rw [hlen]; rfl, decide_eq_false h1]; rfl) rfl
  · skip
    refine G_st (L := 89) (k := 5) (54, [some (.ref 62), some (.int 99), some (.int 108), some (.int 117), some (.int 98), some (.int 0), some (.int 4)], [.int ((nI q) + 1), .ref 62], qS sw gc (r_R I (nI n) (nI q) c v f e) J) (q_hn _ _ _ _) rfl ?_
    rw [show (nI q) + 1 = nI (q + 1) from (q_addP rfl rfl)]
    refine G_callV (b := 62) (ci := 9) (as := [.int (nI (q + 1))]) (rest := []) rfl rfl rfl (q_lt (by decide)) (by decide) rfl rfl (Nat.le_of_ble_eq_true rfl) (r_look (r_Tp_R hT) (by omega)) x_out_n ?_
    refine G_st (L := 89) (k := 1) (58, [some (.ref 62), some (.int 99), some (.int 108), some (.int 117), some (.int 98), some (.int 0), some (.int 4)], [.int 108, .int (t (q + 1))], qS sw gc (r_R I (nI n) (nI q) c v f e) J) (q_hn _ _ _ _) rfl ?_
    refine G_icmp_ne 119 rfl rfl (fun h2 => ?_) (fun h2 => ?_)
    · skip
      refine G_st (L := 89) (k := 1) (120, [some (.ref 62), some (.int 99), some (.int 108), some (.int 117), some (.int 98), some (.int 0), some (.int 4)], [.int 0], qS sw gc (r_R I (nI n) (nI q) c v f e) J) (q_hn _ _ _ _) rfl ?_
      exact G_iret rfl rfl (by unfold t_nm3; rw [Nat.add_zero, show Nat.beq (n - q) 4 = true by rw [hlen]; rfl, decide_eq_true h1, decide_eq_false h2]; rfl) rfl
    · skip
      refine G_st (L := 89) (k := 5) (68, [some (.ref 62), some (.int 99), some (.int 108), some (.int 117), some (.int 98), some (.int 0), some (.int 4)], [.int ((nI q) + 2), .ref 62], qS sw gc (r_R I (nI n) (nI q) c v f e) J) (q_hn _ _ _ _) rfl ?_
      rw [show (nI q) + 2 = nI (q + 2) from (q_addP rfl rfl)]
      refine G_callV (b := 62) (ci := 9) (as := [.int (nI (q + 2))]) (rest := []) rfl rfl rfl (q_lt (by decide)) (by decide) rfl rfl (Nat.le_of_ble_eq_true rfl) (r_look (r_Tp_R hT) (by omega)) x_out_n ?_
      refine G_st (L := 89) (k := 1) (72, [some (.ref 62), some (.int 99), some (.int 108), some (.int 117), some (.int 98), some (.int 0), some (.int 4)], [.int 117, .int (t (q + 2))], qS sw gc (r_R I (nI n) (nI q) c v f e) J) (q_hn _ _ _ _) rfl ?_
      refine G_icmp_ne 119 rfl rfl (fun h3 => ?_) (fun h3 => ?_)
      · skip
        refine G_st (L := 89) (k := 1) (120, [some (.ref 62), some (.int 99), some (.int 108), some (.int 117), some (.int 98), some (.int 0), some (.int 4)], [.int 0], qS sw gc (r_R I (nI n) (nI q) c v f e) J) (q_hn _ _ _ _) rfl ?_
        exact G_iret rfl rfl (by unfold t_nm3; rw [Nat.add_zero, show Nat.beq (n - q) 4 = true by rw [hlen]; rfl, decide_eq_true h1, decide_eq_true h2, decide_eq_false h3]; rfl) rfl
      · skip
        refine G_st (L := 89) (k := 1) (77, [some (.ref 62), some (.int 99), some (.int 108), some (.int 117), some (.int 98), some (.int 0), some (.int 4)], [.int 98], qS sw gc (r_R I (nI n) (nI q) c v f e) J) (q_hn _ _ _ _) rfl ?_
        refine G_if_eq 95 rfl rfl (fun h9 => absurd h9 (by decide)) (fun _ => ?_)
        refine G_st (L := 89) (k := 5) (87, [some (.ref 62), some (.int 99), some (.int 108), some (.int 117), some (.int 98), some (.int 0), some (.int 4)], [.int ((nI q) + 3), .ref 62], qS sw gc (r_R I (nI n) (nI q) c v f e) J) (q_hn _ _ _ _) rfl ?_
        rw [show (nI q) + 3 = nI (q + 3) from (q_addP rfl rfl)]
        refine G_callV (b := 62) (ci := 9) (as := [.int (nI (q + 3))]) (rest := []) rfl rfl rfl (q_lt (by decide)) (by decide) rfl rfl (Nat.le_of_ble_eq_true rfl) (r_look (r_Tp_R hT) (by omega)) x_out_n ?_
        refine G_st (L := 89) (k := 1) (92, [some (.ref 62), some (.int 99), some (.int 108), some (.int 117), some (.int 98), some (.int 0), some (.int 4)], [.int 98, .int (t (q + 3))], qS sw gc (r_R I (nI n) (nI q) c v f e) J) (q_hn _ _ _ _) rfl ?_
        refine G_icmp_ne 119 rfl rfl (fun h4 => ?_) (fun h4 => ?_)
        · skip
          refine G_st (L := 89) (k := 1) (120, [some (.ref 62), some (.int 99), some (.int 108), some (.int 117), some (.int 98), some (.int 0), some (.int 4)], [.int 0], qS sw gc (r_R I (nI n) (nI q) c v f e) J) (q_hn _ _ _ _) rfl ?_
          exact G_iret rfl rfl (by unfold t_nm3; rw [Nat.add_zero, show Nat.beq (n - q) 4 = true by rw [hlen]; rfl, decide_eq_true h1, decide_eq_true h2, decide_eq_true h3, decide_eq_false h4]; rfl) rfl
        · skip
          refine G_st (L := 89) (k := 1) (97, [some (.ref 62), some (.int 99), some (.int 108), some (.int 117), some (.int 98), some (.int 0), some (.int 4)], [.int 0], qS sw gc (r_R I (nI n) (nI q) c v f e) J) (q_hn _ _ _ _) rfl ?_
          refine G_if_eq 115 rfl rfl (fun _ => ?_) (fun h9 => absurd h9 (by decide))
          refine G_st (L := 89) (k := 2) (120, [some (.ref 62), some (.int 99), some (.int 108), some (.int 117), some (.int 98), some (.int 0), some (.int 4)], [.int 1], qS sw gc (r_R I (nI n) (nI q) c v f e) J) (q_hn _ _ _ _) rfl ?_
          exact G_iret rfl rfl (by unfold t_nm3; rw [Nat.add_zero, show Nat.beq (n - q) 4 = true by rw [hlen]; rfl, decide_eq_true h1, decide_eq_true h2, decide_eq_true h3, decide_eq_true h4]; rfl) rfl
theorem r_inN3 {d : Nat} {sw : Bool} {gc : Nat} {I : Nat → Nat → Int32} {J : Nat → Nat → Int64} {t : Nat → Int32} {l : Nat} (hT : r_Tp I t l) {q n : Nat} (hq : q ≤ n) (hn : n ≤ 900) {c v f e : Int32} (hlen : ¬ n - q = 4) : GM (d + 1) 104 [.ref 62, .int 99, .int 108, .int 117, .int 98, .int 0] (qS sw gc (r_R I (nI n) (nI q) c v f e) J) (some (.int 0)) (qS sw gc (r_R I (nI n) (nI q) c v f e) J) := by
  refine GM_of (by decide) x_out_n (Nat.le_of_ble_eq_true rfl) rfl ?_
  refine G_st (L := 89) (k := 0) (0, [some (.ref 62), some (.int 99), some (.int 108), some (.int 117), some (.int 98), some (.int 0), none], [], qS sw gc (r_R I (nI n) (nI q) c v f e) J) (q_hn _ _ _ _) rfl ?_
  refine G_st (L := 89) (k := 1) (2, [some (.ref 62), some (.int 99), some (.int 108), some (.int 117), some (.int 98), some (.int 0), none], [.int 98], qS sw gc (r_R I (nI n) (nI q) c v f e) J) (q_hn _ _ _ _) rfl ?_
  refine G_if_ne 9 rfl rfl (fun _ => ?_) (fun h9 => absurd h9 (by decide))
  refine G_st (L := 89) (k := 1) (11, [some (.ref 62), some (.int 99), some (.int 108), some (.int 117), some (.int 98), some (.int 0), none], [.int 0], qS sw gc (r_R I (nI n) (nI q) c v f e) J) (q_hn _ _ _ _) rfl ?_
  refine G_if_ne 18 rfl rfl (fun h9 => absurd h9 (by decide)) (fun _ => ?_)
  refine G_st (L := 89) (k := 9) (32, [some (.ref 62), some (.int 99), some (.int 108), some (.int 117), some (.int 98), some (.int 0), some (.int 4)], [.int 4, .int ((nI n) - (nI q))], qS sw gc (r_R I (nI n) (nI q) c v f e) J) (q_hn _ _ _ _) rfl ?_
  rw [show (nI n) - (nI q) = nI (n - q) from (q_subP rfl rfl (by omega))]
  refine G_icmp_ne 119 rfl rfl (fun _ => ?_) (fun h9 => absurd h9 (fun e9 => hlen ((nI_eq (b := 4) (by omega) (by decide)).mp e9)))
  refine G_st (L := 89) (k := 1) (120, [some (.ref 62), some (.int 99), some (.int 108), some (.int 117), some (.int 98), some (.int 0), some (.int 4)], [.int 0], qS sw gc (r_R I (nI n) (nI q) c v f e) J) (q_hn _ _ _ _) rfl ?_
  exact G_iret rfl rfl rfl rfl
theorem r_isName3 {d : Nat} {sw : Bool} {gc : Nat} {I : Nat → Nat → Int32} {J : Nat → Nat → Int64} {t : Nat → Int32} {l : Nat} (hT : r_Tp I t l) {q n : Nat} (hq : q ≤ n) (hn : n ≤ 900) {c v f e : Int32} : GM (d + 1) 104 [.ref 62, .int 99, .int 108, .int 117, .int 98, .int 0] (qS sw gc (r_R I (nI n) (nI q) c v f e) J) (some (.int (q_b (t_nm3 t q n)))) (qS sw gc (r_R I (nI n) (nI q) c v f e) J) := by
  by_cases h : n - q = 4
  · exact r_inP3 hT hq hn h
  · have e : t_nm3 t q n = false := by
      unfold t_nm3
      rw [q_beqF h]; rfl
    rw [e]
    exact r_inN3 hT hq hn h
theorem t_nm3_1 {t : Nat → Int32} {q n : Nat} (h : t_nm3 t q n = true) : n - q = 4 ∧ t q = 99 := by
  unfold t_nm3 at h
  cases h1 : Nat.beq (n - q) 4 with
  | false => rw [h1] at h; cases h
  | true =>
    rw [h1] at h
    cases h2 : decide (t (q + 0) = 99) with
    | false => rw [h2] at h; cases h
    | true => exact ⟨Nat.eq_of_beq_eq_true h1, of_decide_eq_true h2⟩
theorem r_inP4 {d : Nat} {sw : Bool} {gc : Nat} {I : Nat → Nat → Int32} {J : Nat → Nat → Int64} {t : Nat → Int32} {l : Nat} (hT : r_Tp I t l) {q n : Nat} (hq : q ≤ n) (hn : n ≤ 900) {c v f e : Int32} (hlen : n - q = 5) : GM (d + 1) 104 [.ref 62, .int 112, .int 111, .int 117, .int 110, .int 100] (qS sw gc (r_R I (nI n) (nI q) c v f e) J) (some (.int (q_b (t_nm4 t q n)))) (qS sw gc (r_R I (nI n) (nI q) c v f e) J) := by
  refine GM_of (by decide) x_out_n (Nat.le_of_ble_eq_true rfl) q_bn ?_
  refine G_st (L := 89) (k := 0) (0, [some (.ref 62), some (.int 112), some (.int 111), some (.int 117), some (.int 110), some (.int 100), none], [], qS sw gc (r_R I (nI n) (nI q) c v f e) J) (q_hn _ _ _ _) rfl ?_
  refine G_st (L := 89) (k := 1) (2, [some (.ref 62), some (.int 112), some (.int 111), some (.int 117), some (.int 110), some (.int 100), none], [.int 110], qS sw gc (r_R I (nI n) (nI q) c v f e) J) (q_hn _ _ _ _) rfl ?_
  refine G_if_ne 9 rfl rfl (fun _ => ?_) (fun h9 => absurd h9 (by decide))
  refine G_st (L := 89) (k := 1) (11, [some (.ref 62), some (.int 112), some (.int 111), some (.int 117), some (.int 110), some (.int 100), none], [.int 100], qS sw gc (r_R I (nI n) (nI q) c v f e) J) (q_hn _ _ _ _) rfl ?_
  refine G_if_ne 18 rfl rfl (fun _ => ?_) (fun h9 => absurd h9 (by decide))
  refine G_st (L := 89) (k := 8) (32, [some (.ref 62), some (.int 112), some (.int 111), some (.int 117), some (.int 110), some (.int 100), some (.int 5)], [.int 5, .int ((nI n) - (nI q))], qS sw gc (r_R I (nI n) (nI q) c v f e) J) (q_hn _ _ _ _) rfl ?_
  rw [show (nI n) - (nI q) = nI (n - q) from (q_subP rfl rfl (by omega))]
  refine G_icmp_ne 119 rfl rfl (fun h9 => absurd (congrArg nI hlen) h9) (fun _ => ?_)
  refine G_st (L := 89) (k := 3) (40, [some (.ref 62), some (.int 112), some (.int 111), some (.int 117), some (.int 110), some (.int 100), some (.int 5)], [.int (nI q), .ref 62], qS sw gc (r_R I (nI n) (nI q) c v f e) J) (q_hn _ _ _ _) rfl ?_
  rw [show nI q = nI q from rfl]
  refine G_callV (b := 62) (ci := 9) (as := [.int (nI q)]) (rest := []) rfl rfl rfl (q_lt (by decide)) (by decide) rfl rfl (Nat.le_of_ble_eq_true rfl) (r_look (r_Tp_R hT) (by omega)) x_out_n ?_
  refine G_st (L := 89) (k := 1) (44, [some (.ref 62), some (.int 112), some (.int 111), some (.int 117), some (.int 110), some (.int 100), some (.int 5)], [.int 112, .int (t q)], qS sw gc (r_R I (nI n) (nI q) c v f e) J) (q_hn _ _ _ _) rfl ?_
  refine G_icmp_ne 119 rfl rfl (fun h1 => ?_) (fun h1 => ?_)
  · skip
    refine G_st (L := 89) (k := 1) (120, [some (.ref 62), some (.int 112), some (.int 111), some (.int 117), some (.int 110), some (.int 100), some (.int 5)], [.int 0], qS sw gc (r_R I (nI n) (nI q) c v f e) J) (q_hn _ _ _ _) rfl ?_
    exact G_iret rfl rfl (by unfold t_nm4; rw [Nat.add_zero, show Nat.beq (n - q) 5 = true by rw [hlen]; rfl, decide_eq_false h1]; rfl) rfl
  · skip
    refine G_st (L := 89) (k := 5) (54, [some (.ref 62), some (.int 112), some (.int 111), some (.int 117), some (.int 110), some (.int 100), some (.int 5)], [.int ((nI q) + 1), .ref 62], qS sw gc (r_R I (nI n) (nI q) c v f e) J) (q_hn _ _ _ _) rfl ?_
    rw [show (nI q) + 1 = nI (q + 1) from (q_addP rfl rfl)]
    refine G_callV (b := 62) (ci := 9) (as := [.int (nI (q + 1))]) (rest := []) rfl rfl rfl (q_lt (by decide)) (by decide) rfl rfl (Nat.le_of_ble_eq_true rfl) (r_look (r_Tp_R hT) (by omega)) x_out_n ?_
    refine G_st (L := 89) (k := 1) (58, [some (.ref 62), some (.int 112), some (.int 111), some (.int 117), some (.int 110), some (.int 100), some (.int 5)], [.int 111, .int (t (q + 1))], qS sw gc (r_R I (nI n) (nI q) c v f e) J) (q_hn _ _ _ _) rfl ?_
    refine G_icmp_ne 119 rfl rfl (fun h2 => ?_) (fun h2 => ?_)
    · skip
      refine G_st (L := 89) (k := 1) (120, [some (.ref 62), some (.int 112), some (.int 111), some (.int 117), some (.int 110), some (.int 100), some (.int 5)], [.int 0], qS sw gc (r_R I (nI n) (nI q) c v f e) J) (q_hn _ _ _ _) rfl ?_
      exact G_iret rfl rfl (by unfold t_nm4; rw [Nat.add_zero, show Nat.beq (n - q) 5 = true by rw [hlen]; rfl, decide_eq_true h1, decide_eq_false h2]; rfl) rfl
    · skip
      refine G_st (L := 89) (k := 5) (68, [some (.ref 62), some (.int 112), some (.int 111), some (.int 117), some (.int 110), some (.int 100), some (.int 5)], [.int ((nI q) + 2), .ref 62], qS sw gc (r_R I (nI n) (nI q) c v f e) J) (q_hn _ _ _ _) rfl ?_
      rw [show (nI q) + 2 = nI (q + 2) from (q_addP rfl rfl)]
      refine G_callV (b := 62) (ci := 9) (as := [.int (nI (q + 2))]) (rest := []) rfl rfl rfl (q_lt (by decide)) (by decide) rfl rfl (Nat.le_of_ble_eq_true rfl) (r_look (r_Tp_R hT) (by omega)) x_out_n ?_
      refine G_st (L := 89) (k := 1) (72, [some (.ref 62), some (.int 112), some (.int 111), some (.int 117), some (.int 110), some (.int 100), some (.int 5)], [.int 117, .int (t (q + 2))], qS sw gc (r_R I (nI n) (nI q) c v f e) J) (q_hn _ _ _ _) rfl ?_
      refine G_icmp_ne 119 rfl rfl (fun h3 => ?_) (fun h3 => ?_)
      · skip
        refine G_st (L := 89) (k := 1) (120, [some (.ref 62), some (.int 112), some (.int 111), some (.int 117), some (.int 110), some (.int 100), some (.int 5)], [.int 0], qS sw gc (r_R I (nI n) (nI q) c v f e) J) (q_hn _ _ _ _) rfl ?_
        exact G_iret rfl rfl (by unfold t_nm4; rw [Nat.add_zero, show Nat.beq (n - q) 5 = true by rw [hlen]; rfl, decide_eq_true h1, decide_eq_true h2, decide_eq_false h3]; rfl) rfl
      · skip
        refine G_st (L := 89) (k := 1) (77, [some (.ref 62), some (.int 112), some (.int 111), some (.int 117), some (.int 110), some (.int 100), some (.int 5)], [.int 110], qS sw gc (r_R I (nI n) (nI q) c v f e) J) (q_hn _ _ _ _) rfl ?_
        refine G_if_eq 95 rfl rfl (fun h9 => absurd h9 (by decide)) (fun _ => ?_)
        refine G_st (L := 89) (k := 5) (87, [some (.ref 62), some (.int 112), some (.int 111), some (.int 117), some (.int 110), some (.int 100), some (.int 5)], [.int ((nI q) + 3), .ref 62], qS sw gc (r_R I (nI n) (nI q) c v f e) J) (q_hn _ _ _ _) rfl ?_
        rw [show (nI q) + 3 = nI (q + 3) from (q_addP rfl rfl)]
        refine G_callV (b := 62) (ci := 9) (as := [.int (nI (q + 3))]) (rest := []) rfl rfl rfl (q_lt (by decide)) (by decide) rfl rfl (Nat.le_of_ble_eq_true rfl) (r_look (r_Tp_R hT) (by omega)) x_out_n ?_
        refine G_st (L := 89) (k := 1) (92, [some (.ref 62), some (.int 112), some (.int 111), some (.int 117), some (.int 110), some (.int 100), some (.int 5)], [.int 110, .int (t (q + 3))], qS sw gc (r_R I (nI n) (nI q) c v f e) J) (q_hn _ _ _ _) rfl ?_
        refine G_icmp_ne 119 rfl rfl (fun h4 => ?_) (fun h4 => ?_)
        · skip
          refine G_st (L := 89) (k := 1) (120, [some (.ref 62), some (.int 112), some (.int 111), some (.int 117), some (.int 110), some (.int 100), some (.int 5)], [.int 0], qS sw gc (r_R I (nI n) (nI q) c v f e) J) (q_hn _ _ _ _) rfl ?_
          exact G_iret rfl rfl (by unfold t_nm4; rw [Nat.add_zero, show Nat.beq (n - q) 5 = true by rw [hlen]; rfl, decide_eq_true h1, decide_eq_true h2, decide_eq_true h3, decide_eq_false h4]; rfl) rfl
        · skip
          refine G_st (L := 89) (k := 1) (97, [some (.ref 62), some (.int 112), some (.int 111), some (.int 117), some (.int 110), some (.int 100), some (.int 5)], [.int 100], qS sw gc (r_R I (nI n) (nI q) c v f e) J) (q_hn _ _ _ _) rfl ?_
          refine G_if_eq 115 rfl rfl (fun h9 => absurd h9 (by decide)) (fun _ => ?_)
          refine G_st (L := 89) (k := 5) (107, [some (.ref 62), some (.int 112), some (.int 111), some (.int 117), some (.int 110), some (.int 100), some (.int 5)], [.int ((nI q) + 4), .ref 62], qS sw gc (r_R I (nI n) (nI q) c v f e) J) (q_hn _ _ _ _) rfl ?_
          rw [show (nI q) + 4 = nI (q + 4) from (q_addP rfl rfl)]
          refine G_callV (b := 62) (ci := 9) (as := [.int (nI (q + 4))]) (rest := []) rfl rfl rfl (q_lt (by decide)) (by decide) rfl rfl (Nat.le_of_ble_eq_true rfl) (r_look (r_Tp_R hT) (by omega)) x_out_n ?_
          refine G_st (L := 89) (k := 1) (112, [some (.ref 62), some (.int 112), some (.int 111), some (.int 117), some (.int 110), some (.int 100), some (.int 5)], [.int 100, .int (t (q + 4))], qS sw gc (r_R I (nI n) (nI q) c v f e) J) (q_hn _ _ _ _) rfl ?_
          refine G_icmp_ne 119 rfl rfl (fun h5 => ?_) (fun h5 => ?_)
          · skip
            refine G_st (L := 89) (k := 1) (120, [some (.ref 62), some (.int 112), some (.int 111), some (.int 117), some (.int 110), some (.int 100), some (.int 5)], [.int 0], qS sw gc (r_R I (nI n) (nI q) c v f e) J) (q_hn _ _ _ _) rfl ?_
            exact G_iret rfl rfl (by unfold t_nm4; rw [Nat.add_zero, show Nat.beq (n - q) 5 = true by rw [hlen]; rfl, decide_eq_true h1, decide_eq_true h2, decide_eq_true h3, decide_eq_true h4, decide_eq_false h5]; rfl) rfl
          · skip
            refine G_st (L := 89) (k := 2) (120, [some (.ref 62), some (.int 112), some (.int 111), some (.int 117), some (.int 110), some (.int 100), some (.int 5)], [.int 1], qS sw gc (r_R I (nI n) (nI q) c v f e) J) (q_hn _ _ _ _) rfl ?_
            exact G_iret rfl rfl (by unfold t_nm4; rw [Nat.add_zero, show Nat.beq (n - q) 5 = true by rw [hlen]; rfl, decide_eq_true h1, decide_eq_true h2, decide_eq_true h3, decide_eq_true h4, decide_eq_true h5]; rfl) rfl
theorem r_inN4 {d : Nat} {sw : Bool} {gc : Nat} {I : Nat → Nat → Int32} {J : Nat → Nat → Int64} {t : Nat → Int32} {l : Nat} (hT : r_Tp I t l) {q n : Nat} (hq : q ≤ n) (hn : n ≤ 900) {c v f e : Int32} (hlen : ¬ n - q = 5) : GM (d + 1) 104 [.ref 62, .int 112, .int 111, .int 117, .int 110, .int 100] (qS sw gc (r_R I (nI n) (nI q) c v f e) J) (some (.int 0)) (qS sw gc (r_R I (nI n) (nI q) c v f e) J) := by
  refine GM_of (by decide) x_out_n (Nat.le_of_ble_eq_true rfl) rfl ?_
  refine G_st (L := 89) (k := 0) (0, [some (.ref 62), some (.int 112), some (.int 111), some (.int 117), some (.int 110), some (.int 100), none], [], qS sw gc (r_R I (nI n) (nI q) c v f e) J) (q_hn _ _ _ _) rfl ?_
  refine G_st (L := 89) (k := 1) (2, [some (.ref 62), some (.int 112), some (.int 111), some (.int 117), some (.int 110), some (.int 100), none], [.int 110], qS sw gc (r_R I (nI n) (nI q) c v f e) J) (q_hn _ _ _ _) rfl ?_
  refine G_if_ne 9 rfl rfl (fun _ => ?_) (fun h9 => absurd h9 (by decide))
  refine G_st (L := 89) (k := 1) (11, [some (.ref 62), some (.int 112), some (.int 111), some (.int 117), some (.int 110), some (.int 100), none], [.int 100], qS sw gc (r_R I (nI n) (nI q) c v f e) J) (q_hn _ _ _ _) rfl ?_
  refine G_if_ne 18 rfl rfl (fun _ => ?_) (fun h9 => absurd h9 (by decide))
  refine G_st (L := 89) (k := 8) (32, [some (.ref 62), some (.int 112), some (.int 111), some (.int 117), some (.int 110), some (.int 100), some (.int 5)], [.int 5, .int ((nI n) - (nI q))], qS sw gc (r_R I (nI n) (nI q) c v f e) J) (q_hn _ _ _ _) rfl ?_
  rw [show (nI n) - (nI q) = nI (n - q) from (q_subP rfl rfl (by omega))]
  refine G_icmp_ne 119 rfl rfl (fun _ => ?_) (fun h9 => absurd h9 (fun e9 => hlen ((nI_eq (b := 5) (by omega) (by decide)).mp e9)))
  refine G_st (L := 89) (k := 1) (120, [some (.ref 62), some (.int 112), some (.int 111), some (.int 117), some (.int 110), some (.int 100), some (.int 5)], [.int 0], qS sw gc (r_R I (nI n) (nI q) c v f e) J) (q_hn _ _ _ _) rfl ?_
  exact G_iret rfl rfl rfl rfl
theorem r_isName4 {d : Nat} {sw : Bool} {gc : Nat} {I : Nat → Nat → Int32} {J : Nat → Nat → Int64} {t : Nat → Int32} {l : Nat} (hT : r_Tp I t l) {q n : Nat} (hq : q ≤ n) (hn : n ≤ 900) {c v f e : Int32} : GM (d + 1) 104 [.ref 62, .int 112, .int 111, .int 117, .int 110, .int 100] (qS sw gc (r_R I (nI n) (nI q) c v f e) J) (some (.int (q_b (t_nm4 t q n)))) (qS sw gc (r_R I (nI n) (nI q) c v f e) J) := by
  by_cases h : n - q = 5
  · exact r_inP4 hT hq hn h
  · have e : t_nm4 t q n = false := by
      unfold t_nm4
      rw [q_beqF h]; rfl
    rw [e]
    exact r_inN4 hT hq hn h
theorem t_nm4_1 {t : Nat → Int32} {q n : Nat} (h : t_nm4 t q n = true) : n - q = 5 ∧ t q = 112 := by
  unfold t_nm4 at h
  cases h1 : Nat.beq (n - q) 5 with
  | false => rw [h1] at h; cases h
  | true =>
    rw [h1] at h
    cases h2 : decide (t (q + 0) = 112) with
    | false => rw [h2] at h; cases h
    | true => exact ⟨Nat.eq_of_beq_eq_true h1, of_decide_eq_true h2⟩
theorem t_nmx_0_1 {t : Nat → Int32} {q n : Nat} (h : t_nm0 t q n = true) : t_nm1 t q n = false := by
  cases h2 : t_nm1 t q n with
  | false => rfl
  | true =>
    have a := t_nm0_1 h
    have b := t_nm1_1 h2
    first | omega | exact absurd (a.2.symm.trans b.2) (by decide)
theorem t_nmx_0_2 {t : Nat → Int32} {q n : Nat} (h : t_nm0 t q n = true) : t_nm2 t q n = false := by
  cases h2 : t_nm2 t q n with
  | false => rfl
  | true =>
    have a := t_nm0_1 h
    have b := t_nm2_1 h2
    first | omega | exact absurd (a.2.symm.trans b.2) (by decide)
theorem t_nmx_0_3 {t : Nat → Int32} {q n : Nat} (h : t_nm0 t q n = true) : t_nm3 t q n = false := by
  cases h2 : t_nm3 t q n with
  | false => rfl
  | true =>
    have a := t_nm0_1 h
    have b := t_nm3_1 h2
    first | omega | exact absurd (a.2.symm.trans b.2) (by decide)
theorem t_nmx_0_4 {t : Nat → Int32} {q n : Nat} (h : t_nm0 t q n = true) : t_nm4 t q n = false := by
  cases h2 : t_nm4 t q n with
  | false => rfl
  | true =>
    have a := t_nm0_1 h
    have b := t_nm4_1 h2
    first | omega | exact absurd (a.2.symm.trans b.2) (by decide)
theorem t_nmx_1_2 {t : Nat → Int32} {q n : Nat} (h : t_nm1 t q n = true) : t_nm2 t q n = false := by
  cases h2 : t_nm2 t q n with
  | false => rfl
  | true =>
    have a := t_nm1_1 h
    have b := t_nm2_1 h2
    first | omega | exact absurd (a.2.symm.trans b.2) (by decide)
theorem t_nmx_1_3 {t : Nat → Int32} {q n : Nat} (h : t_nm1 t q n = true) : t_nm3 t q n = false := by
  cases h2 : t_nm3 t q n with
  | false => rfl
  | true =>
    have a := t_nm1_1 h
    have b := t_nm3_1 h2
    first | omega | exact absurd (a.2.symm.trans b.2) (by decide)
theorem t_nmx_1_4 {t : Nat → Int32} {q n : Nat} (h : t_nm1 t q n = true) : t_nm4 t q n = false := by
  cases h2 : t_nm4 t q n with
  | false => rfl
  | true =>
    have a := t_nm1_1 h
    have b := t_nm4_1 h2
    first | omega | exact absurd (a.2.symm.trans b.2) (by decide)
theorem t_nmx_2_3 {t : Nat → Int32} {q n : Nat} (h : t_nm2 t q n = true) : t_nm3 t q n = false := by
  cases h2 : t_nm3 t q n with
  | false => rfl
  | true =>
    have a := t_nm2_1 h
    have b := t_nm3_1 h2
    first | omega | exact absurd (a.2.symm.trans b.2) (by decide)
theorem t_nmx_2_4 {t : Nat → Int32} {q n : Nat} (h : t_nm2 t q n = true) : t_nm4 t q n = false := by
  cases h2 : t_nm4 t q n with
  | false => rfl
  | true =>
    have a := t_nm2_1 h
    have b := t_nm4_1 h2
    first | omega | exact absurd (a.2.symm.trans b.2) (by decide)
theorem t_nmx_3_4 {t : Nat → Int32} {q n : Nat} (h : t_nm3 t q n = true) : t_nm4 t q n = false := by
  cases h2 : t_nm4 t q n with
  | false => rfl
  | true =>
    have a := t_nm3_1 h
    have b := t_nm4_1 h2
    first | omega | exact absurd (a.2.symm.trans b.2) (by decide)
theorem r_nameNow {d : Nat} {sw : Bool} {gc : Nat} {I : Nat → Nat → Int32} {J : Nat → Nat → Int64} {t : Nat → Int32} {l : Nat} (hT : r_Tp I t l) {q n : Nat} (hq : q ≤ n) (hn : n ≤ 900) {c v f e : Int32} : GM (d + 2) 105 [.ref 62] (qS sw gc (r_R I (nI n) (nI q) c v f e) J) (some (.int (t_w0 t q n (-4)))) (qS sw gc (r_R I (nI n) (nI q) c v f e) J) := by
  refine GM_of (by decide) x_out_n (Nat.le_of_ble_eq_true rfl) trivial ?_
  refine G_st (L := 89) (k := 0) (0, [some (.ref 62)], [], qS sw gc (r_R I (nI n) (nI q) c v f e) J) (q_hn _ _ _ _) rfl ?_
  refine G_st (L := 89) (k := 6) (9, [some (.ref 62)], [.int 0, .int 0, .int 112, .int 111, .int 116, .ref 62], qS sw gc (r_R I (nI n) (nI q) c v f e) J) (q_hn _ _ _ _) rfl ?_
  refine G_callV (b := 62) (ci := 9) (as := [.int 116, .int 111, .int 112, .int 0, .int 0]) (rest := []) rfl rfl rfl (q_lt (by decide)) (by decide) rfl rfl (Nat.le_of_ble_eq_true rfl) (r_isName0 hT hq hn) x_out_n ?_
  refine G_st (L := 89) (k := 0) (12, [some (.ref 62)], [.int (q_b (t_nm0 t q n))], qS sw gc (r_R I (nI n) (nI q) c v f e) J) (q_hn _ _ _ _) rfl ?_
  refine G_if_eq 17 rfl rfl (fun h1 => ?_) (fun h1 => ?_)
  · skip
    refine G_st (L := 89) (k := 6) (27, [some (.ref 62)], [.int 0, .int 103, .int 110, .int 97, .int 104, .ref 62], qS sw gc (r_R I (nI n) (nI q) c v f e) J) (q_hn _ _ _ _) rfl ?_
    refine G_callV (b := 62) (ci := 9) (as := [.int 104, .int 97, .int 110, .int 103, .int 0]) (rest := []) rfl rfl rfl (q_lt (by decide)) (by decide) rfl rfl (Nat.le_of_ble_eq_true rfl) (r_isName1 hT hq hn) x_out_n ?_
    refine G_st (L := 89) (k := 0) (30, [some (.ref 62)], [.int (q_b (t_nm1 t q n))], qS sw gc (r_R I (nI n) (nI q) c v f e) J) (q_hn _ _ _ _) rfl ?_
    refine G_if_eq 35 rfl rfl (fun h2 => ?_) (fun h2 => ?_)
    · skip
      refine G_st (L := 89) (k := 6) (45, [some (.ref 62)], [.int 0, .int 108, .int 111, .int 111, .int 116, .ref 62], qS sw gc (r_R I (nI n) (nI q) c v f e) J) (q_hn _ _ _ _) rfl ?_
      refine G_callV (b := 62) (ci := 9) (as := [.int 116, .int 111, .int 111, .int 108, .int 0]) (rest := []) rfl rfl rfl (q_lt (by decide)) (by decide) rfl rfl (Nat.le_of_ble_eq_true rfl) (r_isName2 hT hq hn) x_out_n ?_
      refine G_st (L := 89) (k := 0) (48, [some (.ref 62)], [.int (q_b (t_nm2 t q n))], qS sw gc (r_R I (nI n) (nI q) c v f e) J) (q_hn _ _ _ _) rfl ?_
      refine G_if_eq 53 rfl rfl (fun h3 => ?_) (fun h3 => ?_)
      · skip
        refine G_st (L := 89) (k := 6) (63, [some (.ref 62)], [.int 0, .int 98, .int 117, .int 108, .int 99, .ref 62], qS sw gc (r_R I (nI n) (nI q) c v f e) J) (q_hn _ _ _ _) rfl ?_
        refine G_callV (b := 62) (ci := 9) (as := [.int 99, .int 108, .int 117, .int 98, .int 0]) (rest := []) rfl rfl rfl (q_lt (by decide)) (by decide) rfl rfl (Nat.le_of_ble_eq_true rfl) (r_isName3 hT hq hn) x_out_n ?_
        refine G_st (L := 89) (k := 0) (66, [some (.ref 62)], [.int (q_b (t_nm3 t q n))], qS sw gc (r_R I (nI n) (nI q) c v f e) J) (q_hn _ _ _ _) rfl ?_
        refine G_if_eq 71 rfl rfl (fun h4 => ?_) (fun h4 => ?_)
        · skip
          refine G_st (L := 89) (k := 6) (82, [some (.ref 62)], [.int 100, .int 110, .int 117, .int 111, .int 112, .ref 62], qS sw gc (r_R I (nI n) (nI q) c v f e) J) (q_hn _ _ _ _) rfl ?_
          refine G_callV (b := 62) (ci := 9) (as := [.int 112, .int 111, .int 117, .int 110, .int 100]) (rest := []) rfl rfl rfl (q_lt (by decide)) (by decide) rfl rfl (Nat.le_of_ble_eq_true rfl) (r_isName4 hT hq hn) x_out_n ?_
          refine G_st (L := 89) (k := 0) (85, [some (.ref 62)], [.int (q_b (t_nm4 t q n))], qS sw gc (r_R I (nI n) (nI q) c v f e) J) (q_hn _ _ _ _) rfl ?_
          refine G_if_eq 92 rfl rfl (fun h5 => ?_) (fun h5 => ?_)
          · skip
            refine G_st (L := 89) (k := 1) (94, [some (.ref 62)], [.int (-4)], qS sw gc (r_R I (nI n) (nI q) c v f e) J) (q_hn _ _ _ _) rfl ?_
            exact G_iret rfl rfl (by unfold t_w0 t_w1 t_w2 t_w3 t_w4 t_w5; rw [q_b0.mp h1, q_b0.mp h2, q_b0.mp h3, q_b0.mp h4, q_b0.mp h5]; rfl) rfl
          · skip
            refine G_st (L := 89) (k := 2) (94, [some (.ref 62)], [.int 4], qS sw gc (r_R I (nI n) (nI q) c v f e) J) (q_hn _ _ _ _) rfl ?_
            exact G_iret rfl rfl (by unfold t_w0 t_w1 t_w2 t_w3 t_w4 t_w5; rw [q_b0.mp h1, q_b0.mp h2, q_b0.mp h3, q_b0.mp h4, q_b1 h5]; rfl) rfl
        · skip
          refine G_st (L := 89) (k := 1) (70, [some (.ref 62)], [.int 3], qS sw gc (r_R I (nI n) (nI q) c v f e) J) (q_hn _ _ _ _) rfl ?_
          exact G_iret rfl rfl (by unfold t_w0 t_w1 t_w2 t_w3 t_w4 t_w5; rw [q_b0.mp h1, q_b0.mp h2, q_b0.mp h3, q_b1 h4, t_nmx_3_4 (q_b1 h4)]; rfl) rfl
      · skip
        refine G_st (L := 89) (k := 1) (52, [some (.ref 62)], [.int 2], qS sw gc (r_R I (nI n) (nI q) c v f e) J) (q_hn _ _ _ _) rfl ?_
        exact G_iret rfl rfl (by unfold t_w0 t_w1 t_w2 t_w3 t_w4 t_w5; rw [q_b0.mp h1, q_b0.mp h2, q_b1 h3, t_nmx_2_3 (q_b1 h3), t_nmx_2_4 (q_b1 h3)]; rfl) rfl
    · skip
      refine G_st (L := 89) (k := 1) (34, [some (.ref 62)], [.int 1], qS sw gc (r_R I (nI n) (nI q) c v f e) J) (q_hn _ _ _ _) rfl ?_
      exact G_iret rfl rfl (by unfold t_w0 t_w1 t_w2 t_w3 t_w4 t_w5; rw [q_b0.mp h1, q_b1 h2, t_nmx_1_2 (q_b1 h2), t_nmx_1_3 (q_b1 h2), t_nmx_1_4 (q_b1 h2)]; rfl) rfl
  · skip
    refine G_st (L := 89) (k := 1) (16, [some (.ref 62)], [.int 0], qS sw gc (r_R I (nI n) (nI q) c v f e) J) (q_hn _ _ _ _) rfl ?_
    exact G_iret rfl rfl (by unfold t_w0 t_w1 t_w2 t_w3 t_w4 t_w5; rw [q_b1 h1, t_nmx_0_1 (q_b1 h1), t_nmx_0_2 (q_b1 h1), t_nmx_0_3 (q_b1 h1), t_nmx_0_4 (q_b1 h1)]; rfl) rfl
