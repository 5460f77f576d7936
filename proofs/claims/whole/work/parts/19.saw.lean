/-- the sizes: n of them, their lengths -/
def x_Sz (I : Nat → Nat → Int32) (n : Nat) (L : Nat → Nat) : Prop := I 47 3 = nI n ∧ n ≤ 8 ∧ ∀ k, k < n → I 48 k = nI (L k) ∧ 1 ≤ L k ∧ L k ≤ 20
theorem x_Sz.upd {I : Nat → Nat → Int32} {n : Nat} {L : Nat → Nat} (h : x_Sz I n L) {r b : Nat} {v : Int32} (h1 : ¬ (r = 47 ∧ b = 3)) (h2 : r ≠ 48) : x_Sz (q_u I r b v) n L := by
  refine ⟨?_, h.2.1, fun k hk => ?_⟩
  · rw [q_un _ _ (by omega)]; exact h.1
  · rw [q_un _ _ (by omega)]; exact h.2.2 k hk
theorem x_addSize {d : Nat} {sw : Bool} {gc : Nat} {I : Nat → Nat → Int32} {J : Nat → Nat → Int64} {n : Nat} {a b : Int32} (hn : I 47 3 = nI n) (h8 : n < 8) : GM d 44 [.ref 47, .int a, .int b] (qS sw gc I J) (some (.int (nI n))) (qS sw gc (q_u (q_u (q_u I 48 n a) 49 n b) 47 3 (nI (n + 1))) J) := by
  refine GM_of (by decide) (Nat.le_refl _) (Nat.le_of_ble_eq_true rfl) trivial ?_
  refine G_st (L := 89) (k := 0) (0, [some (.ref 47), some (.int a), some (.int b), none], [], qS sw gc I J) (q_hn _ _ _ _) rfl ?_
  refine G_st (L := 89) (k := 3) (6, [some (.ref 47), some (.int a), some (.int b), none], [.int 8, .int (I 47 3)], qS sw gc I J) (q_hn _ _ _ _) rfl ?_
  rw [show I 47 3 = nI n from hn]
  refine G_icmp_lt 12 rfl rfl (fun _ => ?_) (fun h9 => absurd (nI_lt (b := 8) (by omega) (by decide)) h9)
  refine G_st (L := 89) (k := 7) (23, [some (.ref 47), some (.int a), some (.int b), some (.int (I 47 3))], [.int a, .int (I 47 3), .ref 48], qS sw gc I J) (q_hn _ _ _ _) rfl ?_
  rw [show I 47 3 = nI n from hn]
  refine G_iast (i := 48) (n := 8) rfl rfl (q_lt (by decide)) (vp_in_nI (by omega) (by decide)) ?_
  rw [q_clamp (n := n) (by omega)]
  refine G_st (L := 89) (k := 4) (30, [some (.ref 47), some (.int a), some (.int b), some (.int (nI n))], [.int b, .int (nI n), .ref 49], qS sw gc (q_u I 48 n a) J) (q_hn _ _ _ _) rfl ?_
  refine G_iast (i := 49) (n := 8) rfl rfl (q_lt (by decide)) (vp_in_nI (by omega) (by decide)) ?_
  rw [q_clamp (n := n) (by omega)]
  refine G_st (L := 89) (k := 2) (33, [some (.ref 47), some (.int a), some (.int b), some (.int (nI n))], [.ref 47, .ref 47], qS sw gc (q_u (q_u I 48 n a) 49 n b) J) (q_hn _ _ _ _) rfl ?_
  refine G_get (ci := 4) (k := 3) (i := 47) rfl rfl rfl (q_lt (by decide)) ?_
  rw [show q_av (qS sw gc (q_u (q_u I 48 n a) 49 n b) J) 47 (q_fty 4 3) 3 = .int (I 47 3) from congrArg Value.int (show (q_u (q_u I 48 n a) 49 n b) 47 3 = I 47 3 from (q_un _ _ (by omega)).trans (q_un _ _ (by omega)))]
  refine G_st (L := 89) (k := 4) (42, [some (.ref 47), some (.int a), some (.int b), some (.int (nI n))], [.int (nI n)], qS sw gc (q_u (q_u (q_u I 48 n a) 49 n b) 47 3 ((I 47 3) + 1)) J) (q_hn _ _ _ _) rfl ?_
  exact G_iret rfl rfl rfl (by rw [hn, nI_1])
theorem x_addSizeF {d : Nat} {sw : Bool} {gc : Nat} {I : Nat → Nat → Int32} {J : Nat → Nat → Int64} {a b : Int32} (hn : I 47 3 = nI 8) : GM d 44 [.ref 47, .int a, .int b] (qS sw gc I J) (some (.int (-3))) (qS sw gc I J) := by
  refine GM_of (by decide) (Nat.le_refl _) (Nat.le_of_ble_eq_true rfl) trivial ?_
  refine G_st (L := 89) (k := 0) (0, [some (.ref 47), some (.int a), some (.int b), none], [], qS sw gc I J) (q_hn _ _ _ _) rfl ?_
  refine G_st (L := 89) (k := 3) (6, [some (.ref 47), some (.int a), some (.int b), none], [.int 8, .int (I 47 3)], qS sw gc I J) (q_hn _ _ _ _) rfl ?_
  rw [show I 47 3 = nI 8 from hn]
  refine G_icmp_lt 12 rfl rfl (fun h9 => absurd h9 (by decide)) (fun _ => ?_)
  refine G_st (L := 89) (k := 1) (11, [some (.ref 47), some (.int a), some (.int b), none], [.int (-3)], qS sw gc I J) (q_hn _ _ _ _) rfl ?_
  exact G_iret rfl rfl rfl rfl
theorem x_hasSize {d : Nat} {sw : Bool} {gc : Nat} {I : Nat → Nat → Int32} {J : Nat → Nat → Int64} {n : Nat} {L : Nat → Nat} (hz : x_Sz I n L) {k : Nat} (hk : k < n) : GM d 45 [.ref 47, .int (nI k)] (qS sw gc I J) (some (.int 1)) (qS sw gc I J) := by
  have h8 := hz.2.1
  refine GM_of (by decide) (Nat.le_refl _) (Nat.le_of_ble_eq_true rfl) rfl ?_
  refine G_st (L := 89) (k := 0) (0, [some (.ref 47), some (.int (nI k))], [], qS sw gc I J) (q_hn _ _ _ _) rfl ?_
  refine G_st (L := 89) (k := 1) (1, [some (.ref 47), some (.int (nI k))], [.int (nI k)], qS sw gc I J) (q_hn _ _ _ _) rfl ?_
  refine G_if_lt 22 rfl rfl (fun h9 => absurd h9 (nI_nlt (b := 0) (by omega) (by omega))) (fun _ => ?_)
  refine G_st (L := 89) (k := 3) (9, [some (.ref 47), some (.int (nI k))], [.int (I 47 3), .int (nI k)], qS sw gc I J) (q_hn _ _ _ _) rfl ?_
  rw [show I 47 3 = nI n from hz.1]
  refine G_icmp_ge 22 rfl rfl (fun h9 => absurd h9 (nI_ge (by omega) (by omega))) (fun _ => ?_)
  refine G_st (L := 89) (k := 2) (15, [some (.ref 47), some (.int (nI k))], [.int 8, .int (nI k)], qS sw gc I J) (q_hn _ _ _ _) rfl ?_
  refine G_icmp_ge 22 rfl rfl (fun h9 => absurd h9 (nI_ge (b := 8) (by omega) (by decide))) (fun _ => ?_)
  refine G_st (L := 89) (k := 2) (23, [some (.ref 47), some (.int (nI k))], [.int 1], qS sw gc I J) (q_hn _ _ _ _) rfl ?_
  exact G_iret rfl rfl rfl rfl
theorem x_hasSizeN {d : Nat} {sw : Bool} {gc : Nat} {I : Nat → Nat → Int32} {J : Nat → Nat → Int64} {n : Nat} {L : Nat → Nat} (hz : x_Sz I n L) {x : Int32} (hx : x < 0 ∨ nI n ≤ x) : GM d 45 [.ref 47, .int x] (qS sw gc I J) (some (.int 0)) (qS sw gc I J) := by
  refine GM_of (by decide) (Nat.le_refl _) (Nat.le_of_ble_eq_true rfl) rfl ?_
  refine G_st (L := 89) (k := 0) (0, [some (.ref 47), some (.int x)], [], qS sw gc I J) (q_hn _ _ _ _) rfl ?_
  refine G_st (L := 89) (k := 1) (1, [some (.ref 47), some (.int x)], [.int x], qS sw gc I J) (q_hn _ _ _ _) rfl ?_
  refine G_if_lt 22 rfl rfl (fun h1 => ?_) (fun h1 => ?_)
  · skip
    refine G_st (L := 89) (k := 1) (23, [some (.ref 47), some (.int x)], [.int 0], qS sw gc I J) (q_hn _ _ _ _) rfl ?_
    exact G_iret rfl rfl rfl rfl
  · skip
    refine G_st (L := 89) (k := 3) (9, [some (.ref 47), some (.int x)], [.int (I 47 3), .int x], qS sw gc I J) (q_hn _ _ _ _) rfl ?_
    rw [show I 47 3 = nI n from hz.1]
    refine G_icmp_ge 22 rfl rfl (fun _ => ?_) (fun h9 => absurd (hx.resolve_left h1) h9)
    refine G_st (L := 89) (k := 1) (23, [some (.ref 47), some (.int x)], [.int 0], qS sw gc I J) (q_hn _ _ _ _) rfl ?_
    exact G_iret rfl rfl rfl rfl
theorem x_slatesOf {d : Nat} {sw : Bool} {gc : Nat} {I : Nat → Nat → Int32} {J : Nat → Nat → Int64} {n : Nat} {L : Nat → Nat} (hz : x_Sz I n L) {k : Nat} (hk : k < n) : GM (d + 1) 46 [.ref 47, .int (nI k)] (qS sw gc I J) (some (.int (I 50 k))) (qS sw gc I J) := by
  have h8 := hz.2.1
  refine GM_of (by decide) (Nat.le_refl _) (Nat.le_of_ble_eq_true rfl) trivial ?_
  refine G_st (L := 89) (k := 0) (0, [some (.ref 47), some (.int (nI k))], [], qS sw gc I J) (q_hn _ _ _ _) rfl ?_
  refine G_st (L := 89) (k := 2) (2, [some (.ref 47), some (.int (nI k))], [.int (nI k), .ref 47], qS sw gc I J) (q_hn _ _ _ _) rfl ?_
  refine G_callV (b := 47) (ci := 4) (as := [.int (nI k)]) (rest := []) rfl rfl rfl (q_lt (by decide)) (by decide) rfl rfl (Nat.le_of_ble_eq_true rfl) (x_hasSize hz (by omega)) (Nat.le_refl _) ?_
  refine G_st (L := 89) (k := 0) (5, [some (.ref 47), some (.int (nI k))], [.int 1], qS sw gc I J) (q_hn _ _ _ _) rfl ?_
  refine G_if_eq 17 rfl rfl (fun h9 => absurd h9 (by decide)) (fun _ => ?_)
  refine G_st (L := 89) (k := 3) (13, [some (.ref 47), some (.int (nI k))], [.int (nI k), .ref 50], qS sw gc I J) (q_hn _ _ _ _) rfl ?_
  refine G_iald (i := 50) (n := 8) rfl rfl (q_lt (by decide)) (vp_in_nI (by omega) (by decide)) ?_
  rw [q_clamp (n := k) (by omega)]
  refine G_st (L := 89) (k := 1) (18, [some (.ref 47), some (.int (nI k))], [.int (I 50 k)], qS sw gc I J) (q_hn _ _ _ _) rfl ?_
  exact G_iret rfl rfl rfl rfl
def x_ff (F : Int64) (l p : Int32) : Bool := decide ((F &&& (((1 <<< (Int32.toInt64 l &&& 63)) - 1) <<< (Int32.toInt64 p &&& 63))) = 0)
def x_mw (I : Nat → Nat → Int32) (L : Nat → Nat) (len : Nat) (F : Int64) (p k : Nat) : Int32 := if nI (L k) ≤ nI (len - p) then cond (x_ff F (I 48 k) (nI p)) (I 49 k + I 51 (p + L k)) (-4) else (-4)
theorem x_mostWith {d : Nat} {sw : Bool} {gc : Nat} {I : Nat → Nat → Int32} {J : Nat → Nat → Int64} {n : Nat} {L : Nat → Nat} (hz : x_Sz I n L) {len p : Nat} {F : Int64} (hl : len ≤ 40) (hp : p < len) {k : Nat} (hk : k < n) : GM (d + 1) 48 [.ref 47, .int (nI k), .int (nI p), .int (nI len), .long F] (qS sw gc I J) (some (.int (x_mw I L len F p k))) (qS sw gc I J) := by
  have h8 := hz.2.1
  have hk2 := (hz.2.2 k hk).2
  refine GM_of (by decide) (Nat.le_refl _) (Nat.le_of_ble_eq_true rfl) trivial ?_
  refine G_st (L := 89) (k := 0) (0, [some (.ref 47), some (.int (nI k)), some (.int (nI p)), some (.int (nI len)), some (.long F), none, none, none], [], qS sw gc I J) (q_hn _ _ _ _) rfl ?_
  refine G_st (L := 89) (k := 2) (2, [some (.ref 47), some (.int (nI k)), some (.int (nI p)), some (.int (nI len)), some (.long F), none, none, none], [.int (nI k), .ref 47], qS sw gc I J) (q_hn _ _ _ _) rfl ?_
  refine G_callV (b := 47) (ci := 4) (as := [.int (nI k)]) (rest := []) rfl rfl rfl (q_lt (by decide)) (by decide) rfl rfl (Nat.le_of_ble_eq_true rfl) (x_hasSize hz (by omega)) (Nat.le_refl _) ?_
  refine G_st (L := 89) (k := 0) (5, [some (.ref 47), some (.int (nI k)), some (.int (nI p)), some (.int (nI len)), some (.long F), none, none, none], [.int 1], qS sw gc I J) (q_hn _ _ _ _) rfl ?_
  refine G_if_eq 30 rfl rfl (fun h9 => absurd h9 (by decide)) (fun _ => ?_)
  refine G_st (L := 89) (k := 1) (9, [some (.ref 47), some (.int (nI k)), some (.int (nI p)), some (.int (nI len)), some (.long F), none, none, none], [.int (nI p)], qS sw gc I J) (q_hn _ _ _ _) rfl ?_
  refine G_if_lt 30 rfl rfl (fun h9 => absurd h9 (nI_nlt (b := 0) (by omega) (by omega))) (fun _ => ?_)
  refine G_st (L := 89) (k := 2) (15, [some (.ref 47), some (.int (nI k)), some (.int (nI p)), some (.int (nI len)), some (.long F), none, none, none], [.int 40, .int (nI len)], qS sw gc I J) (q_hn _ _ _ _) rfl ?_
  refine G_icmp_gt 30 rfl rfl (fun h9 => absurd h9 (nI_nlt (a := 40) (by omega) (by decide))) (fun _ => ?_)
  refine G_st (L := 89) (k := 3) (23, [some (.ref 47), some (.int (nI k)), some (.int (nI p)), some (.int (nI len)), some (.long F), none, none, none], [.int (nI k), .ref 48], qS sw gc I J) (q_hn _ _ _ _) rfl ?_
  refine G_iald (i := 48) (n := 8) rfl rfl (q_lt (by decide)) (vp_in_nI (by omega) (by decide)) ?_
  rw [q_clamp (n := k) (by omega)]
  refine G_st (L := 89) (k := 3) (27, [some (.ref 47), some (.int (nI k)), some (.int (nI p)), some (.int (nI len)), some (.long F), none, none, none], [.int ((nI len) - (nI p)), .int (I 48 k)], qS sw gc I J) (q_hn _ _ _ _) rfl ?_
  rw [show (nI len) - (nI p) = nI (len - p) from (q_subP rfl rfl (by omega))]
  rw [show I 48 k = nI (L k) from (hz.2.2 k (by omega)).1]
  refine G_icmp_le 33 rfl rfl (fun h1 => ?_) (fun h1 => ?_)
  · skip
    refine G_st (L := 89) (k := 4) (39, [some (.ref 47), some (.int (nI k)), some (.int (nI p)), some (.int (nI len)), some (.long F), none, none, none], [.int (nI k), .ref 48, .long 1], qS sw gc I J) (q_hn _ _ _ _) rfl ?_
    refine G_iald (i := 48) (n := 8) rfl rfl (q_lt (by decide)) (vp_in_nI (by omega) (by decide)) ?_
    rw [q_clamp (n := k) (by omega)]
    refine G_st (L := 89) (k := 11) (54, [some (.ref 47), some (.int (nI k)), some (.int (nI p)), some (.int (nI len)), some (.long F), none, some (.long (((1 <<< (Int32.toInt64 (I 48 k) &&& 63)) - 1) <<< (Int32.toInt64 (nI p) &&& 63))), none], [.int (lg_cmp (F &&& (((1 <<< (Int32.toInt64 (I 48 k) &&& 63)) - 1) <<< (Int32.toInt64 (nI p) &&& 63))) 0)], qS sw gc I J) (q_hn _ _ _ _) rfl ?_
    refine G_if_ne 80 rfl rfl (fun h2 => ?_) (fun h2 => ?_)
    · skip
      refine G_st (L := 89) (k := 1) (82, [some (.ref 47), some (.int (nI k)), some (.int (nI p)), some (.int (nI len)), some (.long F), none, some (.long (((1 <<< (Int32.toInt64 (I 48 k) &&& 63)) - 1) <<< (Int32.toInt64 (nI p) &&& 63))), none], [.int (-4)], qS sw gc I J) (q_hn _ _ _ _) rfl ?_
      exact G_iret rfl rfl (by rw [x_mw, if_pos h1, x_ff, decide_eq_false (fun z => h2 ((q_cmp_eq _ _).mpr z))]; rfl) rfl
    · skip
      refine G_st (L := 89) (k := 3) (62, [some (.ref 47), some (.int (nI k)), some (.int (nI p)), some (.int (nI len)), some (.long F), none, some (.long (((1 <<< (Int32.toInt64 (I 48 k) &&& 63)) - 1) <<< (Int32.toInt64 (nI p) &&& 63))), none], [.int (nI k), .ref 49], qS sw gc I J) (q_hn _ _ _ _) rfl ?_
      refine G_iald (i := 49) (n := 8) rfl rfl (q_lt (by decide)) (vp_in_nI (by omega) (by decide)) ?_
      rw [q_clamp (n := k) (by omega)]
      refine G_st (L := 89) (k := 6) (73, [some (.ref 47), some (.int (nI k)), some (.int (nI p)), some (.int (nI len)), some (.long F), none, some (.long (((1 <<< (Int32.toInt64 (I 48 k) &&& 63)) - 1) <<< (Int32.toInt64 (nI p) &&& 63))), none], [.int (nI k), .ref 48, .int (nI p), .ref 51, .int (I 49 k)], qS sw gc I J) (q_hn _ _ _ _) rfl ?_
      refine G_iald (i := 48) (n := 8) rfl rfl (q_lt (by decide)) (vp_in_nI (by omega) (by decide)) ?_
      rw [q_clamp (n := k) (by omega)]
      refine G_st (L := 89) (k := 1) (75, [some (.ref 47), some (.int (nI k)), some (.int (nI p)), some (.int (nI len)), some (.long F), none, some (.long (((1 <<< (Int32.toInt64 (I 48 k) &&& 63)) - 1) <<< (Int32.toInt64 (nI p) &&& 63))), none], [.int ((nI p) + (I 48 k)), .ref 51, .int (I 49 k)], qS sw gc I J) (q_hn _ _ _ _) rfl ?_
      rw [show (nI p) + (I 48 k) = nI (p + L k) from (q_addP rfl ((hz.2.2 k (by omega)).1))]
      refine G_iald (i := 51) (n := 41) rfl rfl (q_lt (by decide)) (vp_in_nI (by have z1 := (nI_leI (by omega) (by omega)).mp h1; omega) (by decide)) ?_
      rw [q_clamp (n := p + L k) (by omega)]
      refine G_st (L := 89) (k := 2) (82, [some (.ref 47), some (.int (nI k)), some (.int (nI p)), some (.int (nI len)), some (.long F), none, some (.long (((1 <<< (Int32.toInt64 (I 48 k) &&& 63)) - 1) <<< (Int32.toInt64 (nI p) &&& 63))), none], [.int ((I 49 k) + (I 51 (p + L k)))], qS sw gc I J) (q_hn _ _ _ _) rfl ?_
      exact G_iret rfl rfl (by rw [x_mw, if_pos h1, x_ff, decide_eq_true ((q_cmp_eq _ _).mp h2)]; rfl) rfl
  · skip
    refine G_st (L := 89) (k := 1) (32, [some (.ref 47), some (.int (nI k)), some (.int (nI p)), some (.int (nI len)), some (.long F), none, none, none], [.int (-4)], qS sw gc I J) (q_hn _ _ _ _) rfl ?_
    exact G_iret rfl rfl (by rw [x_mw, if_neg h1]) rfl
def x_inN (I : Nat → Nat → Int32) (L : Nat → Nat) (len : Nat) (F : Int64) (p : Nat) : Nat → Nat → Int32 → Int32
  | 0, _, a => a
  | m + 1, k, a => x_inN I L len F p m (k + 1) (f_jmax a (x_mw I L len F p k))
def x_out (L : Nat → Nat) (n len : Nat) (F : Int64) : Nat → (Nat → Nat → Int32) → (Nat → Nat → Int32)
  | 0, I => I
  | p + 1, I => x_out L n len F p (q_u I 51 p (x_inN I L len F p n 0 (I 51 (p + 1))))
theorem x_in_loop {d : Nat} {sw : Bool} {gc : Nat} {I : Nat → Nat → Int32} {J : Nat → Nat → Int64} {n : Nat} {L : Nat → Nat} (hz : x_Sz I n L) {len p : Nat} {F : Int64} (hl : len ≤ 40) (hp : p < len) {r : Option Value} {M2 : qM} (hM : q_n (qS sw gc I J) ≤ q_n M2) : ∀ (m k : Nat) (a : Int32), k + m = n → G (d + 2) 47 (74, [some (.ref 47), some (.int (nI len)), some (.long F), none, some (.int (nI p)), some (.int (x_inN I L len F p m k a)), none], [], qS sw gc I J) r M2 → G (d + 2) 47 (42, [some (.ref 47), some (.int (nI len)), some (.long F), none, some (.int (nI p)), some (.int a), some (.int (nI k))], [], qS sw gc I J) r M2 := by
  have h8 := hz.2.1
  intro m
  induction m with
  | zero =>
    intro k a h g
    obtain rfl : k = n := by omega
    refine G_st (L := 89) (k := 3) (48, [some (.ref 47), some (.int (nI len)), some (.long F), none, some (.int (nI p)), some (.int a), some (.int (nI k))], [.int (I 47 3), .int (nI k)], qS sw gc I J) (q_hn _ _ _ _) rfl ?_
    rw [show I 47 3 = nI k from hz.1]
    refine G_icmp_ge 74 rfl rfl (fun _ => ?_) (fun h9 => absurd (nI_le (Nat.le_refl _) (by omega)) h9)
    refine G_fg [some (.ref 47), some (.int (nI len)), some (.long F), none, some (.int (nI p)), some (.int a), none] (by repeat (first | exact trivial | refine ⟨rfl, ?_⟩)) ?_
    exact g
  | succ m ih =>
    intro k a h g
    refine G_st (L := 89) (k := 3) (48, [some (.ref 47), some (.int (nI len)), some (.long F), none, some (.int (nI p)), some (.int a), some (.int (nI k))], [.int (I 47 3), .int (nI k)], qS sw gc I J) (q_hn _ _ _ _) rfl ?_
    rw [show I 47 3 = nI n from hz.1]
    refine G_icmp_ge 74 rfl rfl (fun h9 => absurd h9 (nI_ge (by omega) (by omega))) (fun _ => ?_)
    refine G_st (L := 89) (k := 6) (60, [some (.ref 47), some (.int (nI len)), some (.long F), none, some (.int (nI p)), some (.int a), some (.int (nI k))], [.long F, .int (nI len), .int (nI p), .int (nI k), .ref 47, .int a], qS sw gc I J) (q_hn _ _ _ _) rfl ?_
    refine G_callV (b := 47) (ci := 4) (as := [.int (nI k), .int (nI p), .int (nI len), .long F]) (rest := [.int a]) rfl rfl rfl (q_lt (by decide)) (by decide) rfl rfl (Nat.le_of_ble_eq_true rfl) (x_mostWith hz hl (by omega) (by omega)) hM ?_
    refine G_st (L := 89) (k := 0) (63, [some (.ref 47), some (.int (nI len)), some (.long F), none, some (.int (nI p)), some (.int a), some (.int (nI k))], [.int (x_mw I L len F p k), .int a], qS sw gc I J) (q_hn _ _ _ _) rfl ?_
    refine G_callS (as := [.int a, .int (x_mw I L len F p k)]) (rest := []) rfl rfl rfl (Nat.le_of_ble_eq_true rfl) (m_jmax _ _) hM ?_
    refine G_st (L := 89) (k := 3) (42, [some (.ref 47), some (.int (nI len)), some (.long F), none, some (.int (nI p)), some (.int (f_jmax a (x_mw I L len F p k))), some (.int ((nI k) + 1))], [], qS sw gc I J) (q_hn _ _ _ _) rfl ?_
    rw [show (nI k) + 1 = nI (k + 1) from (q_addP rfl rfl)]
    exact ih (k + 1) _ (by omega) g
theorem q_m1 (x : Int32) : x + (-1) + 1 = x := by rw [Int32.add_assoc, show ((-1 : Int32) + 1) = 0 from rfl, Int32.add_zero]
theorem x_out_n {sw : Bool} {gc : Nat} {I I2 : Nat → Nat → Int32} {J J2 : Nat → Nat → Int64} : q_n (qS sw gc I J) ≤ q_n (qS sw gc I2 J2) := Nat.le_refl _
theorem x_out_loop {d : Nat} {sw : Bool} {gc : Nat} {J : Nat → Nat → Int64} {n len : Nat} {L : Nat → Nat} {F : Int64} (hl : len ≤ 40) : ∀ (p : Nat) (I : Nat → Nat → Int32) (o5 o6 : Option Value) (x : Int32), x_Sz I n L → p ≤ len → x + 1 = nI p → G (d + 2) 47 (23, [some (.ref 47), some (.int (nI len)), some (.long F), none, some (.int x), none, none], [], qS sw gc I J) (some (.int (x_out L n len F p I 51 0))) (qS sw gc (x_out L n len F p I) J) := by
  intro p
  induction p with
  | zero =>
    intro I o5 o6 x hz hp hx
    obtain rfl : x = -1 := by
      rw [show (-1 : Int32) = nI 0 - 1 from rfl, ← hx]
      simp
    refine G_st (L := 89) (k := 1) (25, [some (.ref 47), some (.int (nI len)), some (.long F), none, some (.int (-1)), none, none], [.int (-1)], qS sw gc I J) (q_hn _ _ _ _) rfl ?_
    refine G_if_lt 89 rfl rfl (fun _ => ?_) (fun h9 => absurd h9 (by decide))
    refine G_st (L := 89) (k := 3) (94, [some (.ref 47), some (.int (nI len)), some (.long F), none, some (.int (-1)), none, none], [.int 0, .ref 51], qS sw gc I J) (q_hn _ _ _ _) rfl ?_
    refine G_iald (i := 51) (n := 41) rfl rfl (q_lt (by decide)) (by unfold vp_in; decide) ?_
    refine G_st (L := 89) (k := 0) (95, [some (.ref 47), some (.int (nI len)), some (.long F), none, some (.int (-1)), none, none], [.int (I 51 0)], qS sw gc I J) (q_hn _ _ _ _) rfl ?_
    exact G_iret rfl rfl rfl rfl
  | succ p ih =>
    intro I o5 o6 x hz hp hx
    obtain rfl : x = nI p := by
      have e : x + 1 = nI p + 1 := by rw [hx, nI_1]
      exact (Int32.add_left_inj 1).mp e
    have h8 := hz.2.1
    refine G_st (L := 89) (k := 1) (25, [some (.ref 47), some (.int (nI len)), some (.long F), none, some (.int (nI p)), none, none], [.int (nI p)], qS sw gc I J) (q_hn _ _ _ _) rfl ?_
    refine G_if_lt 89 rfl rfl (fun h9 => absurd h9 (nI_nlt (b := 0) (by omega) (by omega))) (fun _ => ?_)
    refine G_st (L := 89) (k := 5) (36, [some (.ref 47), some (.int (nI len)), some (.long F), none, some (.int (nI p)), none, none], [.int ((nI p) + 1), .ref 51], qS sw gc I J) (q_hn _ _ _ _) rfl ?_
    rw [show (nI p) + 1 = nI (p + 1) from (q_addP rfl rfl)]
    refine G_iald (i := 51) (n := 41) rfl rfl (q_lt (by decide)) (vp_in_nI (by omega) (by decide)) ?_
    rw [q_clamp (n := p + 1) (by omega)]
    refine G_st (L := 89) (k := 3) (42, [some (.ref 47), some (.int (nI len)), some (.long F), none, some (.int (nI p)), some (.int (I 51 (p + 1))), some (.int 0)], [], qS sw gc I J) (q_hn _ _ _ _) rfl ?_
    refine x_in_loop hz hl (by omega) x_out_n n 0 _ (by omega) ?_
    refine G_st (L := 89) (k := 4) (82, [some (.ref 47), some (.int (nI len)), some (.long F), none, some (.int (nI p)), some (.int (x_inN I L len F p n 0 (I 51 (p + 1)))), none], [.int (x_inN I L len F p n 0 (I 51 (p + 1))), .int (nI p), .ref 51], qS sw gc I J) (q_hn _ _ _ _) rfl ?_
    refine G_iast (i := 51) (n := 41) rfl rfl (q_lt (by decide)) (vp_in_nI (by omega) (by decide)) ?_
    rw [q_clamp (n := p) (by omega)]
    refine G_st (L := 89) (k := 2) (23, [some (.ref 47), some (.int (nI len)), some (.long F), none, some (.int ((nI p) + (-1))), some (.int (x_inN I L len F p n 0 (I 51 (p + 1)))), none], [], qS sw gc (q_u I 51 p (x_inN I L len F p n 0 (I 51 (p + 1)))) J) (q_hn _ _ _ _) rfl ?_
    refine G_fg [some (.ref 47), some (.int (nI len)), some (.long F), none, some (.int ((nI p) + (-1))), none, none] (by repeat (first | exact trivial | refine ⟨rfl, ?_⟩)) ?_
    exact ih _ none none _ (hz.upd (by omega) (by omega)) (by omega) (q_m1 _)
def x_mo (I : Nat → Nat → Int32) (L : Nat → Nat) (n len : Nat) (F : Int64) : Nat → Nat → Int32 := x_out L n len F len (q_u I 51 len 0)
theorem x_mostOf {d : Nat} {sw : Bool} {gc : Nat} {I : Nat → Nat → Int32} {J : Nat → Nat → Int64} {n : Nat} {L : Nat → Nat} (hz : x_Sz I n L) {len : Nat} {F : Int64} (hl : len ≤ 40) (hl1 : 1 ≤ len) (hb : f_isBlock (lN len) F = 1) : GM (d + 2) 47 [.ref 47, .int (nI len), .long F] (qS sw gc I J) (some (.int (x_mo I L n len F 51 0))) (qS sw gc (x_mo I L n len F) J) := by
  have hb9 := m_isBlock (d := d + 1) (M := qS sw gc I J) (lN len) F
  rw [hb] at hb9
  refine GM_of (by decide) (Nat.le_refl _) (Nat.le_of_ble_eq_true rfl) trivial ?_
  refine G_st (L := 89) (k := 0) (0, [some (.ref 47), some (.int (nI len)), some (.long F), none, none, none, none], [], qS sw gc I J) (q_hn _ _ _ _) rfl ?_
  refine G_st (L := 89) (k := 3) (3, [some (.ref 47), some (.int (nI len)), some (.long F), none, none, none, none], [.long F, .long (Int32.toInt64 (nI len))], qS sw gc I J) (q_hn _ _ _ _) rfl ?_
  rw [show Int32.toInt64 (nI len) = lN len from (q_i2lP rfl (by omega))]
  refine G_callS (as := [.long (lN len), .long F]) (rest := []) rfl rfl rfl (Nat.le_of_ble_eq_true rfl) hb9 (Nat.le_refl _) ?_
  refine G_st (L := 89) (k := 0) (6, [some (.ref 47), some (.int (nI len)), some (.long F), none, none, none, none], [.int 1], qS sw gc I J) (q_hn _ _ _ _) rfl ?_
  refine G_if_ne 11 rfl rfl (fun _ => ?_) (fun h9 => absurd h9 (by decide))
  refine G_st (L := 89) (k := 4) (17, [some (.ref 47), some (.int (nI len)), some (.long F), none, none, none, none], [.int 0, .int (nI len), .ref 51], qS sw gc I J) (q_hn _ _ _ _) rfl ?_
  refine G_iast (i := 51) (n := 41) rfl rfl (q_lt (by decide)) (vp_in_nI (by omega) (by decide)) ?_
  rw [q_clamp (n := len) (by omega)]
  refine G_st (L := 89) (k := 4) (23, [some (.ref 47), some (.int (nI len)), some (.long F), none, some (.int ((nI len) - 1)), none, none], [], qS sw gc (q_u I 51 len 0) J) (q_hn _ _ _ _) rfl ?_
  rw [show (nI len) - 1 = nI (len - 1) from (q_subP rfl rfl (by omega))]
  exact x_out_loop hl len _ none none _ (hz.upd (by omega) (by omega)) (Nat.le_refl _) (by rw [nI_1, Nat.sub_add_cancel hl1])
