def x_T (I : Nat → Nat → Int32) (p : Nat) : Int32 := if p < (I 2 1).toNatClampNeg then I 3 p &&& 255 else -1
theorem x_byT {d : Nat} {sw : Bool} {gc : Nat} {I : Nat → Nat → Int32} {J : Nat → Nat → Int64} {l p : Nat} (hl : I 2 1 = nI l) (hl2 : l ≤ 200) (hp : p < 2 ^ 31) : GM d 65 [.ref 2, .int (nI p)] (qS sw gc I J) (some (.int (x_T I p))) (qS sw gc I J) := by
  unfold x_T
  rw [hl, q_clamp (by omega)]
  by_cases h : p < l
  · rw [if_pos h]; exact x_byteAt hl hl2 h
  · rw [if_neg h]; exact x_byteAtN hl (by omega) hp
def x_R (I : Nat → Nat → Int32) (a b c d e : Int32) : Nat → Nat → Int32 := q_u (q_u (q_u (q_u (q_u I 1 1 a) 1 2 b) 1 3 c) 1 4 d) 1 5 e
theorem x_R1 {I : Nat → Nat → Int32} {a b c d e z : Int32} : q_u (x_R I a b c d e) 1 1 z = x_R I z b c d e := by
  funext i j
  unfold x_R q_u
  by_cases h : i = 1 ∧ j = 1
  · obtain ⟨rfl, rfl⟩ := h; simp
  · rw [if_neg h]
    repeat (split <;> first | rfl | (exfalso; omega) | skip)
    all_goals simp [*] at *
theorem x_R2 {I : Nat → Nat → Int32} {a b c d e z : Int32} : q_u (x_R I a b c d e) 1 2 z = x_R I a z c d e := by
  funext i j
  unfold x_R q_u
  by_cases h : i = 1 ∧ j = 2
  · obtain ⟨rfl, rfl⟩ := h; simp
  · rw [if_neg h]
    repeat (split <;> first | rfl | (exfalso; omega) | skip)
    all_goals simp [*] at *
theorem x_R3 {I : Nat → Nat → Int32} {a b c d e z : Int32} : q_u (x_R I a b c d e) 1 3 z = x_R I a b z d e := by
  funext i j
  unfold x_R q_u
  by_cases h : i = 1 ∧ j = 3
  · obtain ⟨rfl, rfl⟩ := h; simp
  · rw [if_neg h]
    repeat (split <;> first | rfl | (exfalso; omega) | skip)
    all_goals simp [*] at *
theorem x_R4 {I : Nat → Nat → Int32} {a b c d e z : Int32} : q_u (x_R I a b c d e) 1 4 z = x_R I a b c z e := by
  funext i j
  unfold x_R q_u
  by_cases h : i = 1 ∧ j = 4
  · obtain ⟨rfl, rfl⟩ := h; simp
  · rw [if_neg h]
    repeat (split <;> first | rfl | (exfalso; omega) | skip)
    all_goals simp [*] at *
theorem x_R5 {I : Nat → Nat → Int32} {a b c d e z : Int32} : q_u (x_R I a b c d e) 1 5 z = x_R I a b c d z := by
  funext i j
  unfold x_R q_u
  by_cases h : i = 1 ∧ j = 5
  · obtain ⟨rfl, rfl⟩ := h; simp
  · rw [if_neg h]
    repeat (split <;> first | rfl | (exfalso; omega) | skip)
    all_goals simp [*] at *
theorem x_R_un {I : Nat → Nat → Int32} {a b c d e : Int32} {i j : Nat} (h : ¬ (i = 1 ∧ 1 ≤ j ∧ j ≤ 5)) : x_R I a b c d e i j = I i j := by
  unfold x_R
  rw [q_un _ _ (by omega), q_un _ _ (by omega), q_un _ _ (by omega), q_un _ _ (by omega), q_un _ _ (by omega)]
theorem q_uid {α : Type} (f : Nat → Nat → α) (i k : Nat) : q_u f i k (f i k) = f := by
  funext a b
  unfold q_u
  split
  · rename_i h; rw [h.1, h.2]
  · rfl
theorem x_R_id (I : Nat → Nat → Int32) : x_R I (I 1 1) (I 1 2) (I 1 3) (I 1 4) (I 1 5) = I := by
  unfold x_R
  rw [q_uid, q_uid, q_uid, q_uid, q_uid]
def q_run (f : Int32 → Bool) (t : Nat → Int32) : Nat → Nat → Nat
  | 0, p => p
  | n + 1, p => cond (f (t p)) (q_run f t n (p + 1)) p
theorem q_run_ge (f : Int32 → Bool) (t : Nat → Int32) : ∀ n p, p ≤ q_run f t n p ∧ q_run f t n p ≤ p + n
  | 0, p => ⟨Nat.le_refl _, Nat.le_refl _⟩
  | n + 1, p => by
    unfold q_run
    have h := q_run_ge f t n (p + 1)
    cases f (t p)
    · exact ⟨Nat.le_refl _, Nat.le_add_right _ _⟩
    · simp only [cond_true]; omega
def q_isB (c : Int32) : Bool := decide (c = 32)
def q_isL (c : Int32) : Bool := !decide (f_isLetter c = 0)
def q_isF (c : Int32) : Bool := !decide (f_isFigure c = 0)
def q_val (t : Nat → Int32) : Nat → Nat → Int32 → Int32
  | 0, _, v => v
  | n + 1, p, v => cond (q_isF (t p)) (q_val t n (p + 1) ((10 * v + t p) - 48)) v
theorem x_skip_loop {d : Nat} {sw : Bool} {gc : Nat} {I : Nat → Nat → Int32} {J : Nat → Nat → Int64} {l : Nat} (hl : I 2 1 = nI l) (hl2 : l ≤ 200) {b c f e : Int32} : ∀ (n i p : Nat), i + n = 200 → p + n ≤ 1000 → G (d + 1) 35 (2, [some (.ref 1), some (.int (nI i))], [], qS sw gc (x_R I (nI p) b c f e) J) none (qS sw gc (x_R I (nI (q_run q_isB (x_T I) n p)) b c f e) J) := by
  intro n
  induction n with
  | zero =>
    intro i p h h2
    obtain rfl : i = 200 := by omega
    refine G_st (L := 89) (k := 2) (6, [some (.ref 1), some (.int 200)], [.int 200, .int 200], qS sw gc (x_R I (nI p) b c f e) J) (q_hn _ _ _ _) rfl ?_
    refine G_icmp_ge 41 rfl rfl (fun _ => ?_) (fun h9 => absurd h9 (by decide))
    exact G_ret rfl rfl rfl rfl
  | succ n ih =>
    intro i p h h2
    by_cases hc : x_T I p = 32
    · rw [show q_run q_isB (x_T I) (n + 1) p = q_run q_isB (x_T I) n (p + 1) by rw [q_run, q_isB, decide_eq_true hc]; rfl]
      refine G_st (L := 89) (k := 2) (6, [some (.ref 1), some (.int (nI i))], [.int 200, .int (nI i)], qS sw gc (x_R I (nI p) b c f e) J) (q_hn _ _ _ _) rfl ?_
      refine G_icmp_ge 41 rfl rfl (fun h9 => absurd h9 (nI_ge (b := 200) (by omega) (by decide))) (fun _ => ?_)
      refine G_st (L := 89) (k := 4) (17, [some (.ref 1), some (.int (nI i))], [.int (nI p), .ref 2], qS sw gc (x_R I (nI p) b c f e) J) (q_hn _ _ _ _) rfl ?_
      rw [show nI p = nI p from rfl]
      refine G_callV (b := 2) (ci := 6) (as := [.int (nI p)]) (rest := []) rfl rfl rfl (q_lt (by decide)) (by decide) rfl rfl (Nat.le_of_ble_eq_true rfl) (x_byT (l := l) hl hl2 (by omega)) x_out_n ?_
      refine G_st (L := 89) (k := 1) (22, [some (.ref 1), some (.int (nI i))], [.int 32, .int (x_T I p)], qS sw gc (x_R I (nI p) b c f e) J) (q_hn _ _ _ _) rfl ?_
      refine G_icmp_ne 41 rfl rfl (fun h9 => absurd hc h9) (fun _ => ?_)
      refine G_st (L := 89) (k := 8) (2, [some (.ref 1), some (.int ((nI i) + 1))], [], qS sw gc (q_u (x_R I (nI p) b c f e) 1 1 ((nI p) + 1)) J) (q_hn _ _ _ _) rfl ?_
      rw [show (nI i) + 1 = nI (i + 1) from (q_addP rfl rfl)]
      rw [x_R1]
      rw [show (nI p) + 1 = nI (p + 1) from q_addP rfl rfl]
      exact ih (i + 1) (p + 1) (by omega) (by omega)
    · rw [show q_run q_isB (x_T I) (n + 1) p = p by rw [q_run, q_isB, decide_eq_false hc]; rfl]
      refine G_st (L := 89) (k := 2) (6, [some (.ref 1), some (.int (nI i))], [.int 200, .int (nI i)], qS sw gc (x_R I (nI p) b c f e) J) (q_hn _ _ _ _) rfl ?_
      refine G_icmp_ge 41 rfl rfl (fun h9 => absurd h9 (nI_ge (b := 200) (by omega) (by decide))) (fun _ => ?_)
      refine G_st (L := 89) (k := 4) (17, [some (.ref 1), some (.int (nI i))], [.int (nI p), .ref 2], qS sw gc (x_R I (nI p) b c f e) J) (q_hn _ _ _ _) rfl ?_
      rw [show nI p = nI p from rfl]
      refine G_callV (b := 2) (ci := 6) (as := [.int (nI p)]) (rest := []) rfl rfl rfl (q_lt (by decide)) (by decide) rfl rfl (Nat.le_of_ble_eq_true rfl) (x_byT (l := l) hl hl2 (by omega)) x_out_n ?_
      refine G_st (L := 89) (k := 1) (22, [some (.ref 1), some (.int (nI i))], [.int 32, .int (x_T I p)], qS sw gc (x_R I (nI p) b c f e) J) (q_hn _ _ _ _) rfl ?_
      refine G_icmp_ne 41 rfl rfl (fun _ => ?_) (fun h9 => absurd h9 hc)
      exact G_ret rfl rfl rfl rfl
theorem x_skipBlanks {d : Nat} {sw : Bool} {gc : Nat} {I : Nat → Nat → Int32} {J : Nat → Nat → Int64} {l : Nat} (hl : I 2 1 = nI l) (hl2 : l ≤ 200) {p : Nat} (hp : p ≤ 500) {b c f e : Int32} : GM (d + 1) 35 [.ref 1] (qS sw gc (x_R I (nI p) b c f e) J) (none) (qS sw gc (x_R I (nI (q_run q_isB (x_T I) 200 p)) b c f e) J) := by
  refine GM_of (by decide) x_out_n (Nat.le_of_ble_eq_true rfl) trivial ?_
  refine G_st (L := 89) (k := 0) (0, [some (.ref 1), none], [], qS sw gc (x_R I (nI p) b c f e) J) (q_hn _ _ _ _) rfl ?_
  refine G_st (L := 89) (k := 2) (2, [some (.ref 1), some (.int 0)], [], qS sw gc (x_R I (nI p) b c f e) J) (q_hn _ _ _ _) rfl ?_
  exact x_skip_loop hl hl2 200 0 p (by omega) (by omega)
theorem x_reqF {d : Nat} {sw : Bool} {gc : Nat} {I : Nat → Nat → Int32} {J : Nat → Nat → Int64} {a b c f e h k : Int32} (hf : ¬ f = 0) : GM d 33 [.ref 1, .int h, .int k] (qS sw gc (x_R I a b c f e) J) (none) (qS sw gc (x_R I a b c f e) J) := by
  refine GM_of (by decide) x_out_n (Nat.le_of_ble_eq_true rfl) trivial ?_
  refine G_st (L := 89) (k := 0) (0, [some (.ref 1), some (.int h), some (.int k)], [], qS sw gc (x_R I a b c f e) J) (q_hn _ _ _ _) rfl ?_
  refine G_st (L := 89) (k := 2) (4, [some (.ref 1), some (.int h), some (.int k)], [.int f], qS sw gc (x_R I a b c f e) J) (q_hn _ _ _ _) rfl ?_
  refine G_if_ne 16 rfl rfl (fun _ => ?_) (fun h9 => absurd h9 hf)
  exact G_ret rfl rfl rfl rfl
theorem x_req1 {d : Nat} {sw : Bool} {gc : Nat} {I : Nat → Nat → Int32} {J : Nat → Nat → Int64} {a b c f e k : Int32} : GM d 33 [.ref 1, .int 1, .int k] (qS sw gc (x_R I a b c f e) J) (none) (qS sw gc (x_R I a b c f e) J) := by
  refine GM_of (by decide) x_out_n (Nat.le_of_ble_eq_true rfl) trivial ?_
  refine G_st (L := 89) (k := 0) (0, [some (.ref 1), some (.int 1), some (.int k)], [], qS sw gc (x_R I a b c f e) J) (q_hn _ _ _ _) rfl ?_
  refine G_st (L := 89) (k := 2) (4, [some (.ref 1), some (.int 1), some (.int k)], [.int f], qS sw gc (x_R I a b c f e) J) (q_hn _ _ _ _) rfl ?_
  refine G_if_ne 16 rfl rfl (fun h1 => ?_) (fun h1 => ?_)
  · skip
    exact G_ret rfl rfl rfl rfl
  · skip
    refine G_st (L := 89) (k := 1) (8, [some (.ref 1), some (.int 1), some (.int k)], [.int 1], qS sw gc (x_R I a b c f e) J) (q_hn _ _ _ _) rfl ?_
    refine G_if_ne 16 rfl rfl (fun _ => ?_) (fun h9 => absurd h9 (by decide))
    exact G_ret rfl rfl rfl rfl
theorem x_req0 {d : Nat} {sw : Bool} {gc : Nat} {I : Nat → Nat → Int32} {J : Nat → Nat → Int64} {a b c e k : Int32} : GM d 33 [.ref 1, .int 0, .int k] (qS sw gc (x_R I a b c 0 e) J) (none) (qS sw gc (x_R I a b c k e) J) := by
  refine GM_of (by decide) x_out_n (Nat.le_of_ble_eq_true rfl) trivial ?_
  refine G_st (L := 89) (k := 0) (0, [some (.ref 1), some (.int 0), some (.int k)], [], qS sw gc (x_R I a b c 0 e) J) (q_hn _ _ _ _) rfl ?_
  refine G_st (L := 89) (k := 2) (4, [some (.ref 1), some (.int 0), some (.int k)], [.int 0], qS sw gc (x_R I a b c 0 e) J) (q_hn _ _ _ _) rfl ?_
  refine G_if_ne 16 rfl rfl (fun h9 => absurd h9 (by decide)) (fun _ => ?_)
  refine G_st (L := 89) (k := 1) (8, [some (.ref 1), some (.int 0), some (.int k)], [.int 0], qS sw gc (x_R I a b c 0 e) J) (q_hn _ _ _ _) rfl ?_
  refine G_if_ne 16 rfl rfl (fun h9 => absurd h9 (by decide)) (fun _ => ?_)
  refine G_st (L := 89) (k := 3) (16, [some (.ref 1), some (.int 0), some (.int k)], [], qS sw gc (q_u (x_R I a b c 0 e) 1 4 k) J) (q_hn _ _ _ _) rfl ?_
  rw [x_R4]
  exact G_ret rfl rfl rfl rfl
theorem f_isF_01 (v : Int32) : f_isFigure v = 0 ∨ f_isFigure v = 1 := by
  unfold f_isFigure
  split
  · exact Or.inl rfl
  · split
    · exact Or.inl rfl
    · exact Or.inr rfl
theorem f_isL_01 (v : Int32) : f_isLetter v = 0 ∨ f_isLetter v = 1 := by
  unfold f_isLetter
  split
  · exact Or.inl rfl
  · split
    · exact Or.inl rfl
    · exact Or.inr rfl
theorem q_isF1 {v : Int32} (h : f_isFigure v = 1) : q_isF v = true := by rw [q_isF, h]; rfl
theorem q_isF0 {v : Int32} (h : f_isFigure v = 0) : q_isF v = false := by rw [q_isF, h]; rfl
theorem q_isL1 {v : Int32} (h : f_isLetter v = 1) : q_isL v = true := by rw [q_isL, h]; rfl
theorem q_isL0 {v : Int32} (h : f_isLetter v = 0) : q_isL v = false := by rw [q_isL, h]; rfl
theorem x_tn_end {d : Nat} {sw : Bool} {gc : Nat} {I : Nat → Nat → Int32} {J : Nat → Nat → Int64} {p q : Nat} {v : Int32} (hq : q ≤ p) (hp : p ≤ 1000) : G (d + 1) 38 (78, [some (.ref 1), none], [], qS sw gc (x_R I (nI p) 2 v 0 (nI q)) J) none (qS sw gc (x_R I (nI p) 2 v (q_b (!decide (p - q ≤ 4))) (nI q)) J) := by
  by_cases h4 : p - q ≤ 4
  · rw [decide_eq_true h4]
    refine G_st (L := 89) (k := 7) (89, [some (.ref 1), none], [.int 4, .int ((nI p) - (nI q)), .ref 1], qS sw gc (x_R I (nI p) 2 v 0 (nI q)) J) (q_hn _ _ _ _) rfl ?_
    rw [show (nI p) - (nI q) = nI (p - q) from (q_subP rfl rfl (by omega))]
    refine G_icmp_gt 96 rfl rfl (fun h9 => absurd h9 (nI_nlt (a := 4) (by omega) (by omega))) (fun _ => ?_)
    refine G_st (L := 89) (k := 3) (98, [some (.ref 1), none], [.int 1, .int 1, .ref 1], qS sw gc (x_R I (nI p) 2 v 0 (nI q)) J) (q_hn _ _ _ _) rfl ?_
    refine G_callV (b := 1) (ci := 3) (as := [.int 1, .int 1]) (rest := []) rfl rfl rfl (q_lt (by decide)) (by decide) rfl rfl (Nat.le_of_ble_eq_true rfl) x_req1 x_out_n ?_
    refine G_st (L := 89) (k := 0) (101, [some (.ref 1), none], [], qS sw gc (x_R I (nI p) 2 v 0 (nI q)) J) (q_hn _ _ _ _) rfl ?_
    exact G_ret rfl rfl rfl rfl
  · rw [decide_eq_false h4]
    refine G_st (L := 89) (k := 7) (89, [some (.ref 1), none], [.int 4, .int ((nI p) - (nI q)), .ref 1], qS sw gc (x_R I (nI p) 2 v 0 (nI q)) J) (q_hn _ _ _ _) rfl ?_
    rw [show (nI p) - (nI q) = nI (p - q) from (q_subP rfl rfl (by omega))]
    refine G_icmp_gt 96 rfl rfl (fun _ => ?_) (fun h9 => absurd (nI_lt (a := 4) (by omega) (by omega)) h9)
    refine G_st (L := 89) (k := 2) (98, [some (.ref 1), none], [.int 1, .int 0, .ref 1], qS sw gc (x_R I (nI p) 2 v 0 (nI q)) J) (q_hn _ _ _ _) rfl ?_
    refine G_callV (b := 1) (ci := 3) (as := [.int 0, .int 1]) (rest := []) rfl rfl rfl (q_lt (by decide)) (by decide) rfl rfl (Nat.le_of_ble_eq_true rfl) x_req0 x_out_n ?_
    refine G_st (L := 89) (k := 0) (101, [some (.ref 1), none], [], qS sw gc (x_R I (nI p) 2 v 1 (nI q)) J) (q_hn _ _ _ _) rfl ?_
    exact G_ret rfl rfl rfl rfl
theorem x_tn_loop {d : Nat} {sw : Bool} {gc : Nat} {I : Nat → Nat → Int32} {J : Nat → Nat → Int64} {l : Nat} (hl : I 2 1 = nI l) (hl2 : l ≤ 200) {q : Nat} : ∀ (n i p : Nat) (v : Int32), i + n = 200 → p + n ≤ 1000 → q ≤ p → G (d + 1) 38 (12, [some (.ref 1), some (.int (nI i))], [], qS sw gc (x_R I (nI p) 2 v 0 (nI q)) J) none (qS sw gc (x_R I (nI (q_run q_isF (x_T I) n p)) 2 (q_val (x_T I) n p v) (q_b (!decide (q_run q_isF (x_T I) n p - q ≤ 4))) (nI q)) J) := by
  intro n
  induction n with
  | zero =>
    intro i p v h h2 hq
    obtain rfl : i = 200 := by omega
    refine G_st (L := 89) (k := 2) (16, [some (.ref 1), some (.int 200)], [.int 200, .int 200], qS sw gc (x_R I (nI p) 2 v 0 (nI q)) J) (q_hn _ _ _ _) rfl ?_
    refine G_icmp_ge 78 rfl rfl (fun _ => ?_) (fun h9 => absurd h9 (by decide))
    refine G_fg [some (.ref 1), none] (by repeat (first | exact trivial | refine ⟨rfl, ?_⟩)) ?_
    exact x_tn_end hq (by omega)
  | succ n ih =>
    intro i p v h h2 hq
    rcases f_isF_01 (x_T I p) with hf | hf
    · rw [show q_run q_isF (x_T I) (n + 1) p = p by rw [q_run, q_isF0 hf]; rfl, show q_val (x_T I) (n + 1) p v = v by rw [q_val, q_isF0 hf]; rfl]
      refine G_st (L := 89) (k := 2) (16, [some (.ref 1), some (.int (nI i))], [.int 200, .int (nI i)], qS sw gc (x_R I (nI p) 2 v 0 (nI q)) J) (q_hn _ _ _ _) rfl ?_
      refine G_icmp_ge 78 rfl rfl (fun h9 => absurd h9 (nI_ge (b := 200) (by omega) (by decide))) (fun _ => ?_)
      refine G_st (L := 89) (k := 4) (27, [some (.ref 1), some (.int (nI i))], [.int (nI p), .ref 2], qS sw gc (x_R I (nI p) 2 v 0 (nI q)) J) (q_hn _ _ _ _) rfl ?_
      rw [show nI p = nI p from rfl]
      refine G_callV (b := 2) (ci := 6) (as := [.int (nI p)]) (rest := []) rfl rfl rfl (q_lt (by decide)) (by decide) rfl rfl (Nat.le_of_ble_eq_true rfl) (x_byT (l := l) hl hl2 (by omega)) x_out_n ?_
      refine G_st (L := 89) (k := 0) (30, [some (.ref 1), some (.int (nI i))], [.int (x_T I p)], qS sw gc (x_R I (nI p) 2 v 0 (nI q)) J) (q_hn _ _ _ _) rfl ?_
      refine G_callS (as := [.int (x_T I p)]) (rest := []) rfl rfl rfl (Nat.le_of_ble_eq_true rfl) (GM_r (m_isFigure _) hf) x_out_n ?_
      refine G_st (L := 89) (k := 0) (33, [some (.ref 1), some (.int (nI i))], [.int 0], qS sw gc (x_R I (nI p) 2 v 0 (nI q)) J) (q_hn _ _ _ _) rfl ?_
      refine G_if_eq 78 rfl rfl (fun _ => ?_) (fun h9 => absurd h9 (by decide))
      refine G_fg [some (.ref 1), none] (by repeat (first | exact trivial | refine ⟨rfl, ?_⟩)) ?_
      exact x_tn_end hq (by omega)
    · rw [show q_run q_isF (x_T I) (n + 1) p = q_run q_isF (x_T I) n (p + 1) by rw [q_run, q_isF1 hf]; rfl, show q_val (x_T I) (n + 1) p v = q_val (x_T I) n (p + 1) ((10 * v + x_T I p) - 48) by rw [q_val, q_isF1 hf]; rfl]
      refine G_st (L := 89) (k := 2) (16, [some (.ref 1), some (.int (nI i))], [.int 200, .int (nI i)], qS sw gc (x_R I (nI p) 2 v 0 (nI q)) J) (q_hn _ _ _ _) rfl ?_
      refine G_icmp_ge 78 rfl rfl (fun h9 => absurd h9 (nI_ge (b := 200) (by omega) (by decide))) (fun _ => ?_)
      refine G_st (L := 89) (k := 4) (27, [some (.ref 1), some (.int (nI i))], [.int (nI p), .ref 2], qS sw gc (x_R I (nI p) 2 v 0 (nI q)) J) (q_hn _ _ _ _) rfl ?_
      rw [show nI p = nI p from rfl]
      refine G_callV (b := 2) (ci := 6) (as := [.int (nI p)]) (rest := []) rfl rfl rfl (q_lt (by decide)) (by decide) rfl rfl (Nat.le_of_ble_eq_true rfl) (x_byT (l := l) hl hl2 (by omega)) x_out_n ?_
      refine G_st (L := 89) (k := 0) (30, [some (.ref 1), some (.int (nI i))], [.int (x_T I p)], qS sw gc (x_R I (nI p) 2 v 0 (nI q)) J) (q_hn _ _ _ _) rfl ?_
      refine G_callS (as := [.int (x_T I p)]) (rest := []) rfl rfl rfl (Nat.le_of_ble_eq_true rfl) (GM_r (m_isFigure _) hf) x_out_n ?_
      refine G_st (L := 89) (k := 0) (33, [some (.ref 1), some (.int (nI i))], [.int 1], qS sw gc (x_R I (nI p) 2 v 0 (nI q)) J) (q_hn _ _ _ _) rfl ?_
      refine G_if_eq 78 rfl rfl (fun h9 => absurd h9 (by decide)) (fun _ => ?_)
      refine G_st (L := 89) (k := 9) (52, [some (.ref 1), some (.int (nI i))], [.int (nI p), .ref 2, .int (10 * v), .ref 1], qS sw gc (x_R I (nI p) 2 v 0 (nI q)) J) (q_hn _ _ _ _) rfl ?_
      rw [show nI p = nI p from rfl]
      refine G_callV (b := 2) (ci := 6) (as := [.int (nI p)]) (rest := [.int (10 * v), .ref 1]) rfl rfl rfl (q_lt (by decide)) (by decide) rfl rfl (Nat.le_of_ble_eq_true rfl) (x_byT (l := l) hl hl2 (by omega)) x_out_n ?_
      refine G_st (L := 89) (k := 12) (12, [some (.ref 1), some (.int ((nI i) + 1))], [], qS sw gc (q_u (q_u (x_R I (nI p) 2 v 0 (nI q)) 1 3 (((10 * v) + (x_T I p)) - 48)) 1 1 ((nI p) + 1)) J) (q_hn _ _ _ _) rfl ?_
      rw [show (nI i) + 1 = nI (i + 1) from (q_addP rfl rfl)]
      rw [x_R3]
      rw [x_R1]
      rw [show (nI p) + 1 = nI (p + 1) from q_addP rfl rfl]
      exact ih (i + 1) (p + 1) _ (by omega) (by omega) (by omega)
theorem x_takeNumber {d : Nat} {sw : Bool} {gc : Nat} {I : Nat → Nat → Int32} {J : Nat → Nat → Int64} {l : Nat} (hl : I 2 1 = nI l) (hl2 : l ≤ 200) {p : Nat} (hp : p ≤ 500) {b c : Int32} : GM (d + 1) 38 [.ref 1] (qS sw gc (x_R I (nI p) b c 0 (nI p)) J) (none) (qS sw gc (x_R I (nI (q_run q_isF (x_T I) 200 p)) 2 (q_val (x_T I) 200 p 0) (q_b (!decide (q_run q_isF (x_T I) 200 p - p ≤ 4))) (nI p)) J) := by
  refine GM_of (by decide) x_out_n (Nat.le_of_ble_eq_true rfl) trivial ?_
  refine G_st (L := 89) (k := 0) (0, [some (.ref 1), none], [], qS sw gc (x_R I (nI p) b c 0 (nI p)) J) (q_hn _ _ _ _) rfl ?_
  refine G_st (L := 89) (k := 8) (12, [some (.ref 1), some (.int 0)], [], qS sw gc (q_u (q_u (x_R I (nI p) b c 0 (nI p)) 1 2 2) 1 3 0) J) (q_hn _ _ _ _) rfl ?_
  rw [x_R2]
  rw [x_R3]
  exact x_tn_loop hl hl2 200 0 p 0 (by omega) (by omega) (Nat.le_refl _)
