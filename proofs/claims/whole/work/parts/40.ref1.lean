def f_i3 (x lo hi : Int32) : Int32 := if x < lo then 0 else if hi < x then 0 else 1
theorem f_in_i3 (x lo hi : Int32) : f_in x.toInt64 lo.toInt64 hi.toInt64 = f_i3 x lo hi := by
  unfold f_in f_i3
  have e1 : lg_cmp x.toInt64 lo.toInt64 < 0 ↔ x < lo := by
    rw [q_cmp_lt, Int64.lt_iff_toInt_lt, Int32.toInt_toInt64, Int32.toInt_toInt64, q_lt_int]
  have e2 : 0 < lg_cmp x.toInt64 hi.toInt64 ↔ hi < x := by
    rw [q_cmp_gt, Int64.lt_iff_toInt_lt, Int32.toInt_toInt64, Int32.toInt_toInt64, q_lt_int]
  by_cases h1 : x < lo
  · rw [if_pos (e1.mpr h1), if_pos h1]
  · rw [if_neg (fun h => h1 (e1.mp h)), if_neg h1]
    by_cases h2 : hi < x
    · rw [if_pos (e2.mpr h2), if_pos h2]
    · rw [if_neg (fun h => h2 (e2.mp h)), if_neg h2]
theorem r_in {d : Nat} {M : qM} {x lo hi : Int32} {a b : Int64} (ha : a = lo.toInt64) (hb : b = hi.toInt64) : GM d 99 [.long (Int32.toInt64 x), .long a, .long b] M (some (.int (f_i3 x lo hi))) M := by
  subst ha; subst hb
  exact GM_r (m_in _ _ _) (f_in_i3 x lo hi)
theorem f_i3_1 {x lo hi : Int32} (h1 : ¬ x < lo) (h2 : ¬ hi < x) : f_i3 x lo hi = 1 := by rw [f_i3, if_neg h1, if_neg h2]
theorem f_i3_0 {x lo hi : Int32} (h : x < lo ∨ hi < x) : f_i3 x lo hi = 0 := by
  unfold f_i3
  rcases h with h | h
  · rw [if_pos h]
  · split
    · rfl
    · first | rfl | rw [if_pos h]
theorem f_i3_n {k n : Nat} (h : k ≤ n) (hn : n < 2 ^ 31) : f_i3 (nI k) 0 (nI n) = 1 := f_i3_1 (nI_nlt (b := 0) (Nat.zero_le _) (by omega)) (nI_nlt h hn)
theorem f_i3_01 (x lo hi : Int32) : f_i3 x lo hi = 1 ∨ f_i3 x lo hi = 0 := by
  unfold f_i3
  split
  · exact Or.inr rfl
  · split
    · exact Or.inr rfl
    · exact Or.inl rfl
theorem q_gl {gc : Nat} {x : Int32} (hg : gc ≤ 8) (hx : Int32.toInt64 x < 0 ∨ lN gc ≤ Int32.toInt64 x) : x < 0 ∨ nI gc ≤ x := by
  rcases hx with h | h
  · left
    rw [Int64.lt_iff_toInt_lt, Int32.toInt_toInt64] at h
    rw [q_lt_int]; exact h
  · right
    rw [Int64.le_iff_toInt_le, Int32.toInt_toInt64, lN_toInt (by omega)] at h
    rw [q_le_int, nI_toInt (by omega)]; exact h
theorem q_gl2 {n : Nat} {x : Int32} (hg : n ≤ 60) (hx : x < 0 ∨ nI n ≤ x) : f_i3 x 0 (nI n - 1) = 0 := by
  refine f_i3_0 ?_
  rcases hx with h | h
  · exact Or.inl h
  · right
    cases n with
    | zero =>
      rw [q_le_int, show (nI 0).toInt = 0 from rfl] at h
      rw [q_lt_int, show (nI 0 - 1).toInt = -1 from rfl]; omega
    | succ m =>
      rw [show nI (m + 1) - 1 = nI m from q_subP (a := m + 1) (b := 1) rfl rfl (by omega)]
      rw [q_le_int, nI_toInt (by omega)] at h
      rw [q_lt_int, nI_toInt (by omega)]; omega
theorem r_isFace {d : Nat} {sw : Bool} {gc : Nat} {I : Nat → Nat → Int32} {J : Nat → Nat → Int64} {a b : Nat} (ha : a < 5) (hb : b < 6) : GM (d + 1) 116 [.int (nI a), .int (nI b)] (qS sw gc I J) (some (.int 1)) (qS sw gc I J) := by
  refine GM_of (by decide) (Nat.le_refl _) (Nat.le_of_ble_eq_true rfl) rfl ?_
  refine G_st (L := 89) (k := 0) (0, [some (.int (nI a)), some (.int (nI b))], [], qS sw gc I J) (q_hn _ _ _ _) rfl ?_
  refine G_st (L := 89) (k := 4) (6, [some (.int (nI a)), some (.int (nI b))], [.long 4, .long 0, .long (Int32.toInt64 (nI a))], qS sw gc I J) (q_hn _ _ _ _) rfl ?_
  refine G_callS (as := [.long (Int32.toInt64 (nI a)), .long 0, .long 4]) (rest := []) rfl rfl rfl (Nat.le_of_ble_eq_true rfl) (r_in (lo := 0) (hi := 4) rfl rfl) (Nat.le_refl _) ?_
  refine G_st (L := 89) (k := 0) (9, [some (.int (nI a)), some (.int (nI b))], [.int (f_i3 (nI a) 0 4)], qS sw gc I J) (q_hn _ _ _ _) rfl ?_
  refine G_if_eq 28 rfl rfl (fun h9 => absurd h9 (by rw [show f_i3 (nI a) 0 4 = 1 from f_i3_n (n := 4) (by omega) (by decide)]; decide)) (fun _ => ?_)
  refine G_st (L := 89) (k := 4) (18, [some (.int (nI a)), some (.int (nI b))], [.long 5, .long 0, .long (Int32.toInt64 (nI b))], qS sw gc I J) (q_hn _ _ _ _) rfl ?_
  refine G_callS (as := [.long (Int32.toInt64 (nI b)), .long 0, .long 5]) (rest := []) rfl rfl rfl (Nat.le_of_ble_eq_true rfl) (r_in (lo := 0) (hi := 5) rfl rfl) (Nat.le_refl _) ?_
  refine G_st (L := 89) (k := 0) (21, [some (.int (nI a)), some (.int (nI b))], [.int (f_i3 (nI b) 0 5)], qS sw gc I J) (q_hn _ _ _ _) rfl ?_
  refine G_if_eq 28 rfl rfl (fun h9 => absurd h9 (by rw [show f_i3 (nI b) 0 5 = 1 from f_i3_n (n := 5) (by omega) (by decide)]; decide)) (fun _ => ?_)
  refine G_st (L := 89) (k := 2) (29, [some (.int (nI a)), some (.int (nI b))], [.int 1], qS sw gc I J) (q_hn _ _ _ _) rfl ?_
  exact G_iret rfl rfl rfl rfl
theorem q_fb {g c : Int32} (h : g < 0 ∨ nI 5 ≤ g ∨ c < 0 ∨ nI 6 ≤ c) (h1 : ¬ f_i3 g 0 4 = 0) : f_i3 c 0 5 = 0 := by
  unfold f_i3 at h1
  refine f_i3_0 ?_
  rcases h with h | h | h | h
  · rw [if_pos h] at h1; exact absurd rfl h1
  · have h4 : 4 < g := by
      rw [q_le_int] at h
      rw [q_lt_int]
      have e0 : (nI 5).toInt = 5 := rfl
      have e4 : (4 : Int32).toInt = 4 := rfl
      omega
    split at h1
    · exact absurd rfl h1
    · first | exact absurd rfl h1 | (rw [if_pos h4] at h1; exact absurd rfl h1)
  · exact Or.inl h
  · right
    rw [q_le_int] at h
    rw [q_lt_int]
    have e0 : (nI 6).toInt = 6 := rfl
    have e4 : (5 : Int32).toInt = 5 := rfl
    omega
theorem r_isFaceB {d : Nat} {sw : Bool} {gc : Nat} {I : Nat → Nat → Int32} {J : Nat → Nat → Int64} {g c : Int32} (hbad : g < 0 ∨ nI 5 ≤ g ∨ c < 0 ∨ nI 6 ≤ c) : GM (d + 1) 116 [.int g, .int c] (qS sw gc I J) (some (.int 0)) (qS sw gc I J) := by
  refine GM_of (by decide) (Nat.le_refl _) (Nat.le_of_ble_eq_true rfl) rfl ?_
  refine G_st (L := 89) (k := 0) (0, [some (.int g), some (.int c)], [], qS sw gc I J) (q_hn _ _ _ _) rfl ?_
  refine G_st (L := 89) (k := 4) (6, [some (.int g), some (.int c)], [.long 4, .long 0, .long (Int32.toInt64 g)], qS sw gc I J) (q_hn _ _ _ _) rfl ?_
  refine G_callS (as := [.long (Int32.toInt64 g), .long 0, .long 4]) (rest := []) rfl rfl rfl (Nat.le_of_ble_eq_true rfl) (r_in (lo := 0) (hi := 4) rfl rfl) (Nat.le_refl _) ?_
  refine G_st (L := 89) (k := 0) (9, [some (.int g), some (.int c)], [.int (f_i3 g 0 4)], qS sw gc I J) (q_hn _ _ _ _) rfl ?_
  refine G_if_eq 28 rfl rfl (fun h1 => ?_) (fun h1 => ?_)
  · skip
    refine G_st (L := 89) (k := 1) (29, [some (.int g), some (.int c)], [.int 0], qS sw gc I J) (q_hn _ _ _ _) rfl ?_
    exact G_iret rfl rfl rfl rfl
  · skip
    refine G_st (L := 89) (k := 4) (18, [some (.int g), some (.int c)], [.long 5, .long 0, .long (Int32.toInt64 c)], qS sw gc I J) (q_hn _ _ _ _) rfl ?_
    refine G_callS (as := [.long (Int32.toInt64 c), .long 0, .long 5]) (rest := []) rfl rfl rfl (Nat.le_of_ble_eq_true rfl) (r_in (lo := 0) (hi := 5) rfl rfl) (Nat.le_refl _) ?_
    refine G_st (L := 89) (k := 0) (21, [some (.int g), some (.int c)], [.int (f_i3 c 0 5)], qS sw gc I J) (q_hn _ _ _ _) rfl ?_
    refine G_if_eq 28 rfl rfl (fun _ => ?_) (fun h9 => absurd (q_fb hbad h1) h9)
    refine G_st (L := 89) (k := 1) (29, [some (.int g), some (.int c)], [.int 0], qS sw gc I J) (q_hn _ _ _ _) rfl ?_
    exact G_iret rfl rfl rfl rfl
theorem r_isGang {d : Nat} {sw : Bool} {gc : Nat} {I : Nat → Nat → Int32} {J : Nat → Nat → Int64} (hmg : I 62 20 = nI gc) (hg : gc ≤ 8) {k : Nat} (hk : k < gc) : GM (d + 1) 117 [.ref 62, .int (nI k)] (qS sw gc I J) (some (.int 1)) (qS sw gc I J) := by
  refine GM_of (by decide) (Nat.le_refl _) (Nat.le_of_ble_eq_true rfl) rfl ?_
  refine G_st (L := 89) (k := 0) (0, [some (.ref 62), some (.int (nI k))], [], qS sw gc I J) (q_hn _ _ _ _) rfl ?_
  refine G_st (L := 89) (k := 8) (10, [some (.ref 62), some (.int (nI k))], [.long (Int32.toInt64 ((I 62 20) - 1)), .long 0, .long (Int32.toInt64 (nI k))], qS sw gc I J) (q_hn _ _ _ _) rfl ?_
  refine G_callS (as := [.long (Int32.toInt64 (nI k)), .long 0, .long (Int32.toInt64 ((I 62 20) - 1))]) (rest := []) rfl rfl rfl (Nat.le_of_ble_eq_true rfl) (GM_r (r2 := 1) (r_in (lo := 0) (hi := I 62 20 - 1) rfl rfl) (by rw [hmg, show nI gc - 1 = nI (gc - 1) from q_subP rfl rfl (by omega)]; exact f_i3_n (by omega) (by omega))) (Nat.le_refl _) ?_
  refine G_st (L := 89) (k := 0) (13, [some (.ref 62), some (.int (nI k))], [.int 1], qS sw gc I J) (q_hn _ _ _ _) rfl ?_
  exact G_iret rfl rfl rfl rfl
theorem r_isGangB {d : Nat} {sw : Bool} {gc : Nat} {I : Nat → Nat → Int32} {J : Nat → Nat → Int64} (hmg : I 62 20 = nI gc) (hg : gc ≤ 8) {x : Int32} (hx : Int32.toInt64 x < 0 ∨ lN gc ≤ Int32.toInt64 x) : GM (d + 1) 117 [.ref 62, .int x] (qS sw gc I J) (some (.int 0)) (qS sw gc I J) := by
  refine GM_of (by decide) (Nat.le_refl _) (Nat.le_of_ble_eq_true rfl) rfl ?_
  refine G_st (L := 89) (k := 0) (0, [some (.ref 62), some (.int x)], [], qS sw gc I J) (q_hn _ _ _ _) rfl ?_
  refine G_st (L := 89) (k := 8) (10, [some (.ref 62), some (.int x)], [.long (Int32.toInt64 ((I 62 20) - 1)), .long 0, .long (Int32.toInt64 x)], qS sw gc I J) (q_hn _ _ _ _) rfl ?_
  refine G_callS (as := [.long (Int32.toInt64 x), .long 0, .long (Int32.toInt64 ((I 62 20) - 1))]) (rest := []) rfl rfl rfl (Nat.le_of_ble_eq_true rfl) (GM_r (r2 := 0) (r_in (lo := 0) (hi := I 62 20 - 1) rfl rfl) (by rw [hmg]; exact q_gl2 (by omega) (q_gl hg hx))) (Nat.le_refl _) ?_
  refine G_st (L := 89) (k := 0) (13, [some (.ref 62), some (.int x)], [.int 0], qS sw gc I J) (q_hn _ _ _ _) rfl ?_
  exact G_iret rfl rfl rfl rfl
theorem r_fault {d : Nat} {sw : Bool} {gc : Nat} {I : Nat → Nat → Int32} {J : Nat → Nat → Int64}  : GM d 112 [.ref 62] (qS sw gc I J) (some (.int (I 62 6))) (qS sw gc I J) := by
  refine GM_of (by decide) (Nat.le_refl _) (Nat.le_of_ble_eq_true rfl) trivial ?_
  refine G_st (L := 89) (k := 0) (0, [some (.ref 62)], [], qS sw gc I J) (q_hn _ _ _ _) rfl ?_
  refine G_st (L := 89) (k := 2) (4, [some (.ref 62)], [.int (I 62 6)], qS sw gc I J) (q_hn _ _ _ _) rfl ?_
  exact G_iret rfl rfl rfl rfl
theorem r_end {d : Nat} {sw : Bool} {gc : Nat} {I : Nat → Nat → Int32} {J : Nat → Nat → Int64} {x : Int32} (h : f_i3 x 0 (I 62 1) = 1) : GM (d + 1) 101 [.ref 62, .int x] (qS sw gc I J) (some (.int (I 62 1))) (qS sw gc (q_u I 62 1 x) J) := by
  refine GM_of (by decide) (Nat.le_refl _) (Nat.le_of_ble_eq_true rfl) trivial ?_
  refine G_st (L := 89) (k := 0) (0, [some (.ref 62), some (.int x), none], [], qS sw gc I J) (q_hn _ _ _ _) rfl ?_
  refine G_st (L := 89) (k := 6) (8, [some (.ref 62), some (.int x), none], [.long (Int32.toInt64 (I 62 1)), .long 0, .long (Int32.toInt64 x)], qS sw gc I J) (q_hn _ _ _ _) rfl ?_
  refine G_callS (as := [.long (Int32.toInt64 x), .long 0, .long (Int32.toInt64 (I 62 1))]) (rest := []) rfl rfl rfl (Nat.le_of_ble_eq_true rfl) (r_in (lo := 0) (hi := I 62 1) rfl rfl) (Nat.le_refl _) ?_
  refine G_st (L := 89) (k := 0) (11, [some (.ref 62), some (.int x), none], [.int (f_i3 x 0 (I 62 1))], qS sw gc I J) (q_hn _ _ _ _) rfl ?_
  refine G_if_ne 16 rfl rfl (fun _ => ?_) (fun h9 => absurd h9 (by rw [h]; decide))
  refine G_st (L := 89) (k := 7) (27, [some (.ref 62), some (.int x), some (.int (I 62 1))], [.int (I 62 1)], qS sw gc (q_u I 62 1 x) J) (q_hn _ _ _ _) rfl ?_
  exact G_iret rfl rfl rfl rfl
theorem r_endB {d : Nat} {sw : Bool} {gc : Nat} {I : Nat → Nat → Int32} {J : Nat → Nat → Int64} {x : Int32} (h : f_i3 x 0 (I 62 1) = 0) : GM (d + 1) 101 [.ref 62, .int x] (qS sw gc I J) (some (.int (-1))) (qS sw gc I J) := by
  refine GM_of (by decide) (Nat.le_refl _) (Nat.le_of_ble_eq_true rfl) trivial ?_
  refine G_st (L := 89) (k := 0) (0, [some (.ref 62), some (.int x), none], [], qS sw gc I J) (q_hn _ _ _ _) rfl ?_
  refine G_st (L := 89) (k := 6) (8, [some (.ref 62), some (.int x), none], [.long (Int32.toInt64 (I 62 1)), .long 0, .long (Int32.toInt64 x)], qS sw gc I J) (q_hn _ _ _ _) rfl ?_
  refine G_callS (as := [.long (Int32.toInt64 x), .long 0, .long (Int32.toInt64 (I 62 1))]) (rest := []) rfl rfl rfl (Nat.le_of_ble_eq_true rfl) (r_in (lo := 0) (hi := I 62 1) rfl rfl) (Nat.le_refl _) ?_
  refine G_st (L := 89) (k := 0) (11, [some (.ref 62), some (.int x), none], [.int (f_i3 x 0 (I 62 1))], qS sw gc I J) (q_hn _ _ _ _) rfl ?_
  refine G_if_ne 16 rfl rfl (fun h9 => absurd h h9) (fun _ => ?_)
  refine G_st (L := 89) (k := 1) (15, [some (.ref 62), some (.int x), none], [.int (-1)], qS sw gc I J) (q_hn _ _ _ _) rfl ?_
  exact G_iret rfl rfl rfl rfl
def r_by (v : Int64) (s : Int32) : Int32 := Int64.toInt32 ((v >>> (Int32.toInt64 s &&& 63)) &&& 255)
def r_ap (v : Int64) (l : Nat) : Nat → Nat → (Nat → Nat → Int32) → (Nat → Nat → Int32)
  | 0, _, I => I
  | m + 1, j, I => r_ap v l m (j + 1) (q_u (q_u I 63 (l + j) (r_by v (nI (8 * m)))) 62 1 (nI (l + j + 1)))
theorem r_ap_loop {d : Nat} {sw : Bool} {gc : Nat} {J : Nat → Nat → Int64} {v : Int64} {l : Nat} (hl2 : l ≤ 192) : ∀ (m j : Nat) (I : Nat → Nat → Int32) (s : Int32), j + m = 8 → I 62 1 = nI (l + j) → s + 8 = nI (8 * m) → G d 100 (19, [some (.ref 62), some (.long v), none, some (.int s)], [], qS sw gc I J) (some (.int (r_ap v l m j I 62 1))) (qS sw gc (r_ap v l m j I) J) := by
  intro m
  induction m with
  | zero =>
    intro j I s h hl hs
    obtain rfl : s = -8 := by
      have e : s + 8 = (-8 : Int32) + 8 := hs.trans (by decide)
      exact (Int32.add_left_inj 8).mp e
    refine G_st (L := 89) (k := 1) (20, [some (.ref 62), some (.long v), none, some (.int (-8))], [.int (-8)], qS sw gc I J) (q_hn _ _ _ _) rfl ?_
    refine G_if_lt 56 rfl rfl (fun _ => ?_) (fun h9 => absurd h9 (by decide))
    refine G_st (L := 89) (k := 2) (60, [some (.ref 62), some (.long v), none, some (.int (-8))], [.int (I 62 1)], qS sw gc I J) (q_hn _ _ _ _) rfl ?_
    exact G_iret rfl rfl rfl rfl
  | succ m ih =>
    intro j I s h hl hs
    obtain rfl : s = nI (8 * m) := by
      have e : s + 8 = nI (8 * m) + 8 := hs.trans (by rw [show (8 : Int32) = nI 8 from rfl, nI_add]; rfl)
      exact (Int32.add_left_inj 8).mp e
    refine G_st (L := 89) (k := 1) (20, [some (.ref 62), some (.long v), none, some (.int (nI (8 * m)))], [.int (nI (8 * m))], qS sw gc I J) (q_hn _ _ _ _) rfl ?_
    refine G_if_lt 56 rfl rfl (fun h9 => absurd h9 (nI_pos (by omega))) (fun _ => ?_)
    refine G_st (L := 89) (k := 10) (39, [some (.ref 62), some (.long v), none, some (.int (nI (8 * m)))], [.int (Int64.toInt32 ((v >>> (Int32.toInt64 (nI (8 * m)) &&& 63)) &&& 255)), .int (I 62 1), .ref 63], qS sw gc I J) (q_hn _ _ _ _) rfl ?_
    rw [show I 62 1 = nI (l + j) from hl]
    refine G_iast (i := 63) (n := 200) rfl rfl (q_lt (by decide)) (vp_in_nI (by omega) (by decide)) ?_
    rw [q_clamp (n := l + j) (by omega)]
    refine G_st (L := 89) (k := 2) (42, [some (.ref 62), some (.long v), none, some (.int (nI (8 * m)))], [.ref 62, .ref 62], qS sw gc (q_u I 63 (l + j) (Int64.toInt32 ((v >>> (Int32.toInt64 (nI (8 * m)) &&& 63)) &&& 255))) J) (q_hn _ _ _ _) rfl ?_
    refine G_get (ci := 9) (k := 1) (i := 62) rfl rfl rfl (q_lt (by decide)) ?_
    rw [show q_av (qS sw gc (q_u I 63 (l + j) (Int64.toInt32 ((v >>> (Int32.toInt64 (nI (8 * m)) &&& 63)) &&& 255))) J) 62 (q_fty 9 1) 1 = .int (I 62 1) from congrArg Value.int (show (q_u I 63 (l + j) (Int64.toInt32 ((v >>> (Int32.toInt64 (nI (8 * m)) &&& 63)) &&& 255))) 62 1 = I 62 1 from q_un _ _ (by omega))]
    refine G_st (L := 89) (k := 5) (19, [some (.ref 62), some (.long v), none, some (.int ((nI (8 * m)) + (-8)))], [], qS sw gc (q_u (q_u I 63 (l + j) (Int64.toInt32 ((v >>> (Int32.toInt64 (nI (8 * m)) &&& 63)) &&& 255))) 62 1 ((I 62 1) + 1)) J) (q_hn _ _ _ _) rfl ?_
    rw [hl, nI_1]
    refine ih (j + 1) _ _ (by omega) ?_ ?_
    · rw [q_us]; rfl
    · rw [show (-8 : Int32) = -8 from rfl, Int32.add_assoc, show ((-8 : Int32) + 8) = 0 from rfl, Int32.add_zero]
theorem r_feed {d : Nat} {sw : Bool} {gc : Nat} {I : Nat → Nat → Int32} {J : Nat → Nat → Int64} {v : Int64} {l : Nat} (hl : I 62 1 = nI l) (hl2 : l ≤ 192) : GM d 100 [.ref 62, .long v] (qS sw gc I J) (some (.int (r_ap v l 8 0 I 62 1))) (qS sw gc (r_ap v l 8 0 I) J) := by
  refine GM_of (by decide) (Nat.le_refl _) (Nat.le_of_ble_eq_true rfl) trivial ?_
  refine G_st (L := 89) (k := 0) (0, [some (.ref 62), some (.long v), none, none], [], qS sw gc I J) (q_hn _ _ _ _) rfl ?_
  refine G_st (L := 89) (k := 5) (10, [some (.ref 62), some (.long v), none, none], [.int 200, .int ((I 62 1) + 8)], qS sw gc I J) (q_hn _ _ _ _) rfl ?_
  rw [show (I 62 1) + 8 = nI (l + 8) from (q_addP hl rfl)]
  refine G_icmp_le 16 rfl rfl (fun _ => ?_) (fun h9 => absurd (nI_le (b := 200) (by omega) (by decide)) h9)
  refine G_st (L := 89) (k := 2) (19, [some (.ref 62), some (.long v), none, some (.int 56)], [], qS sw gc I J) (q_hn _ _ _ _) rfl ?_
  exact r_ap_loop hl2 8 0 I 56 rfl hl rfl
theorem r_feedF {d : Nat} {sw : Bool} {gc : Nat} {I : Nat → Nat → Int32} {J : Nat → Nat → Int64} {v : Int64} {l : Nat} (hl : I 62 1 = nI l) (hl2 : 192 < l) (hl3 : l ≤ 200) : GM d 100 [.ref 62, .long v] (qS sw gc I J) (some (.int (-3))) (qS sw gc I J) := by
  refine GM_of (by decide) (Nat.le_refl _) (Nat.le_of_ble_eq_true rfl) trivial ?_
  refine G_st (L := 89) (k := 0) (0, [some (.ref 62), some (.long v), none, none], [], qS sw gc I J) (q_hn _ _ _ _) rfl ?_
  refine G_st (L := 89) (k := 5) (10, [some (.ref 62), some (.long v), none, none], [.int 200, .int ((I 62 1) + 8)], qS sw gc I J) (q_hn _ _ _ _) rfl ?_
  rw [show (I 62 1) + 8 = nI (l + 8) from (q_addP hl rfl)]
  refine G_icmp_le 16 rfl rfl (fun h9 => absurd h9 (nI_ge (a := 200) (by omega) (by omega))) (fun _ => ?_)
  refine G_st (L := 89) (k := 1) (15, [some (.ref 62), some (.long v), none, none], [.int (-3)], qS sw gc I J) (q_hn _ _ _ _) rfl ?_
  exact G_iret rfl rfl rfl rfl
