theorem GM_r {d y : Nat} {av : List Value} {M M1 : qM} {r1 r2 : Int32} (h : GM d y av M (some (.int r1)) M1) (e : r1 = r2) : GM d y av M (some (.int r2)) M1 := e ▸ h
theorem q_cA {k : Nat} (h : k < 2 ^ 31) : ¬ lg_cmp (lN k) 0 < 0 := by
  rw [q_cmp_lt, show (0 : Int64) = lN 0 from rfl, lN_lt h (by decide)]; omega
theorem q_cB {k n : Nat} {x : Int32} (hx : x = nI n) (h : k < n) (hn : n < 2 ^ 31) : ¬ 0 ≤ lg_cmp (lN k) (Int32.toInt64 x) := by
  rw [q_cmp_ge, hx, nI_l hn, lN_le hn (by omega)]; omega
theorem q_cC {k : Nat} (h : k < 8) : lg_cmp (lN k) 8 < 0 := by
  rw [q_cmp_lt, show (8 : Int64) = lN 8 from rfl, lN_lt (by omega) (by decide)]; exact h
theorem q_cD {z : Int64} {n : Nat} {x : Int32} (hx : x = nI n) (hn : n < 2 ^ 31) (h : lN n ≤ z) : 0 ≤ lg_cmp z (Int32.toInt64 x) := by
  rw [q_cmp_ge, hx, nI_l hn]; exact h
theorem f_indexOf_ok {a b : Nat} (ha : a < 5) (hb : b < 6) : f_indexOf (nI a) (nI b) = nI (6 * a + b) := by
  unfold f_indexOf
  rw [if_neg (nI_pos (by omega)), if_neg (show ¬ (5 : Int32) ≤ nI a from nI_ge (b := 5) (by omega) (by decide)), if_neg (nI_pos (by omega)), if_pos (show nI b < (6 : Int32) from nI_lt (b := 6) (by omega) (by decide)), q_6]
theorem f_indexOf_bad {g c : Int32} (h : g < 0 ∨ nI 5 ≤ g ∨ c < 0 ∨ nI 6 ≤ c) : f_indexOf g c = -4 := by
  unfold f_indexOf
  split
  · rfl
  · split
    · rfl
    · split
      · rfl
      · rename_i h1 h2 h3
        rw [if_neg]
        rcases h with h | h | h | h
        · exact absurd h h1
        · exact absurd h h2
        · exact absurd h h3
        · exact fun z => by
            rw [q_le_int] at h; rw [q_lt_int] at z
            have e1 : (6 : Int32).toInt = 6 := rfl
            have e2 : (nI 6).toInt = 6 := rfl
            omega
theorem q_face (g c : Int32) : (∃ a b : Nat, a < 5 ∧ b < 6 ∧ g = nI a ∧ c = nI b) ∨ (g < 0 ∨ nI 5 ≤ g ∨ c < 0 ∨ nI 6 ≤ c) := by
  rcases q_ix g (n := 5) (by decide) with ⟨a, ha, rfl⟩ | h
  · rcases q_ix c (n := 6) (by decide) with ⟨b, hb, rfl⟩ | h
    · exact Or.inl ⟨a, b, ha, hb, rfl, rfl⟩
    · rcases h with h | h
      · exact Or.inr (Or.inr (Or.inr (Or.inl h)))
      · exact Or.inr (Or.inr (Or.inr (Or.inr h)))
  · rcases h with h | h
    · exact Or.inr (Or.inl h)
    · exact Or.inr (Or.inr (Or.inl h))
theorem f_isGoodness_01 (v : Int32) : f_isGoodness v = 1 ∨ f_isGoodness v = 0 := by
  unfold f_isGoodness
  split
  · exact Or.inr rfl
  · split
    · exact Or.inr rfl
    · exact Or.inl rfl
theorem x_gangAt {d : Nat} {sw : Bool} {gc : Nat} {I : Nat → Nat → Int32} {J : Nat → Nat → Int64} {k : Nat} (hgc : I 0 6 = nI gc) (hg : gc ≤ 8) (hk : k < gc) : GM d 91 [.ref 0, .long (lN k)] (qS sw gc I J) (some (.ref (2 * k + 89))) (qS sw gc I J) := by
  refine GM_of (by decide) (Nat.le_refl _) (Nat.le_of_ble_eq_true rfl) rfl ?_
  refine G_st (L := 89) (k := 0) (0, [some (.ref 0), some (.long (lN k)), none], [], qS sw gc I J) (q_hn _ _ _ _) rfl ?_
  refine G_st (L := 89) (k := 3) (3, [some (.ref 0), some (.long (lN k)), none], [.int (lg_cmp (lN k) 0)], qS sw gc I J) (q_hn _ _ _ _) rfl ?_
  refine G_if_lt 24 rfl rfl (fun h9 => absurd h9 (q_cA (by omega))) (fun _ => ?_)
  refine G_st (L := 89) (k := 5) (13, [some (.ref 0), some (.long (lN k)), none], [.int (lg_cmp (lN k) (Int32.toInt64 (I 0 6)))], qS sw gc I J) (q_hn _ _ _ _) rfl ?_
  refine G_if_ge 24 rfl rfl (fun h9 => absurd h9 (q_cB hgc hk (by omega))) (fun _ => ?_)
  refine G_st (L := 89) (k := 3) (21, [some (.ref 0), some (.long (lN k)), none], [.int (lg_cmp (lN k) 8)], qS sw gc I J) (q_hn _ _ _ _) rfl ?_
  refine G_if_lt 26 rfl rfl (fun _ => ?_) (fun h9 => absurd (q_cC (by omega)) h9)
  refine G_st (L := 89) (k := 4) (32, [some (.ref 0), some (.long (lN k)), none], [.int (Int64.toInt32 (lN k)), .ref 46], qS sw gc I J) (q_hn _ _ _ _) rfl ?_
  refine G_aald (i := 46) (n := 8) (t := 5) rfl rfl (by decide) (q_lt (by decide)) (by rw [q_li]; exact vp_in_nI (by omega) (by decide)) ?_
  rw [q_li, q_clamp (n := k) (by omega)]
  rw [show q_r (qS sw gc I J) 46 k = some (2 * k + 89) from @q_rfG sw gc k (by omega)]
  refine G_st (L := 89) (k := 0) (33, [some (.ref 0), some (.long (lN k)), none], [.ref (2 * k + 89)], qS sw gc I J) (q_hn _ _ _ _) rfl ?_
  exact G_aret rfl rfl rfl rfl
theorem x_gangAtN {d : Nat} {sw : Bool} {gc : Nat} {I : Nat → Nat → Int32} {J : Nat → Nat → Int64} {z : Int64} (hgc : I 0 6 = nI gc) (hg : gc ≤ 8) (hx : z < 0 ∨ lN gc ≤ z) : GM d 91 [.ref 0, .long z] (qS sw gc I J) (some (.null)) (qS sw gc I J) := by
  refine GM_of (by decide) (Nat.le_refl _) (Nat.le_of_ble_eq_true rfl) rfl ?_
  refine G_st (L := 89) (k := 0) (0, [some (.ref 0), some (.long z), none], [], qS sw gc I J) (q_hn _ _ _ _) rfl ?_
  refine G_st (L := 89) (k := 3) (3, [some (.ref 0), some (.long z), none], [.int (lg_cmp z 0)], qS sw gc I J) (q_hn _ _ _ _) rfl ?_
  refine G_if_lt 24 rfl rfl (fun h1 => ?_) (fun h1 => ?_)
  · skip
    refine G_st (L := 89) (k := 1) (25, [some (.ref 0), some (.long z), none], [.null], qS sw gc I J) (q_hn _ _ _ _) rfl ?_
    exact G_aret rfl rfl rfl rfl
  · skip
    refine G_st (L := 89) (k := 5) (13, [some (.ref 0), some (.long z), none], [.int (lg_cmp z (Int32.toInt64 (I 0 6)))], qS sw gc I J) (q_hn _ _ _ _) rfl ?_
    refine G_if_ge 24 rfl rfl (fun _ => ?_) (fun h9 => absurd (q_cD hgc (by omega) (hx.resolve_left (fun z => h1 ((q_cmp_lt _ _).mpr z)))) h9)
    refine G_st (L := 89) (k := 1) (25, [some (.ref 0), some (.long z), none], [.null], qS sw gc I J) (q_hn _ _ _ _) rfl ?_
    exact G_aret rfl rfl rfl rfl
theorem x_sheetAt {d : Nat} {sw : Bool} {gc : Nat} {I : Nat → Nat → Int32} {J : Nat → Nat → Int64} {k : Nat} (hk : k < 4) : GM d 92 [.ref 0, .int (nI k)] (qS sw gc I J) (some (.ref (2 * k + 54))) (qS sw gc I J) := by
  refine GM_of (by decide) (Nat.le_refl _) (Nat.le_of_ble_eq_true rfl) rfl ?_
  refine G_st (L := 89) (k := 0) (0, [some (.ref 0), some (.int (nI k))], [], qS sw gc I J) (q_hn _ _ _ _) rfl ?_
  refine G_st (L := 89) (k := 1) (1, [some (.ref 0), some (.int (nI k))], [.int (nI k)], qS sw gc I J) (q_hn _ _ _ _) rfl ?_
  refine G_if_lt 9 rfl rfl (fun h9 => absurd h9 (nI_nlt (b := 0) (by omega) (by omega))) (fun _ => ?_)
  refine G_st (L := 89) (k := 2) (6, [some (.ref 0), some (.int (nI k))], [.int 4, .int (nI k)], qS sw gc I J) (q_hn _ _ _ _) rfl ?_
  refine G_icmp_lt 13 rfl rfl (fun _ => ?_) (fun h9 => absurd (nI_lt (b := 4) (by omega) (by decide)) h9)
  refine G_st (L := 89) (k := 3) (18, [some (.ref 0), some (.int (nI k))], [.int (nI k), .ref 53], qS sw gc I J) (q_hn _ _ _ _) rfl ?_
  refine G_aald (i := 53) (n := 4) (t := 6) rfl rfl (by decide) (q_lt (by decide)) (vp_in_nI (by omega) (by decide)) ?_
  rw [q_clamp (n := k) (by omega)]
  rw [show q_r (qS sw gc I J) 53 k = some (2 * k + 54) from (@q_rfS sw gc k (by omega)).1]
  refine G_st (L := 89) (k := 0) (19, [some (.ref 0), some (.int (nI k))], [.ref (2 * k + 54)], qS sw gc I J) (q_hn _ _ _ _) rfl ?_
  exact G_aret rfl rfl rfl rfl
theorem q_bad4 {x : Int32} (hx : x < 0 ∨ nI 4 ≤ x) (h : ¬ x < 0) : ¬ x < 4 ∧ 4 ≤ x := by
  rcases hx with h2 | h2
  · exact absurd h2 h
  · exact ⟨fun z => by rw [q_le_int] at h2; rw [q_lt_int] at z; have e1 : (4 : Int32).toInt = 4 := rfl; have e2 : (nI 4).toInt = 4 := rfl; omega, h2⟩
theorem x_sheetAtN {d : Nat} {sw : Bool} {gc : Nat} {I : Nat → Nat → Int32} {J : Nat → Nat → Int64} {x : Int32} (hx : x < 0 ∨ nI 4 ≤ x) : GM d 92 [.ref 0, .int x] (qS sw gc I J) (some (.null)) (qS sw gc I J) := by
  refine GM_of (by decide) (Nat.le_refl _) (Nat.le_of_ble_eq_true rfl) rfl ?_
  refine G_st (L := 89) (k := 0) (0, [some (.ref 0), some (.int x)], [], qS sw gc I J) (q_hn _ _ _ _) rfl ?_
  refine G_st (L := 89) (k := 1) (1, [some (.ref 0), some (.int x)], [.int x], qS sw gc I J) (q_hn _ _ _ _) rfl ?_
  refine G_if_lt 9 rfl rfl (fun h1 => ?_) (fun h1 => ?_)
  · skip
    refine G_st (L := 89) (k := 2) (19, [some (.ref 0), some (.int x)], [.null], qS sw gc I J) (q_hn _ _ _ _) rfl ?_
    exact G_aret rfl rfl rfl rfl
  · skip
    refine G_st (L := 89) (k := 2) (6, [some (.ref 0), some (.int x)], [.int 4, .int x], qS sw gc I J) (q_hn _ _ _ _) rfl ?_
    refine G_icmp_lt 13 rfl rfl (fun h9 => absurd h9 (q_bad4 hx h1).1) (fun _ => ?_)
    refine G_st (L := 89) (k := 2) (19, [some (.ref 0), some (.int x)], [.null], qS sw gc I J) (q_hn _ _ _ _) rfl ?_
    exact G_aret rfl rfl rfl rfl
theorem x_ix_ok {d : Nat} {M : qM} {a b : Nat} (ha : a < 5) (hb : b < 6) : GM d 2 [.int (nI a), .int (nI b)] M (some (.int (nI (6 * a + b)))) M := f_indexOf_ok ha hb ▸ m_indexOf (nI a) (nI b)
theorem x_ix_bad {d : Nat} {M : qM} {g c : Int32} (h : g < 0 ∨ nI 5 ≤ g ∨ c < 0 ∨ nI 6 ≤ c) : GM d 2 [.int g, .int c] M (some (.int (-4))) M := f_indexOf_bad h ▸ m_indexOf g c
theorem x_rock {d : Nat} {sw : Bool} {gc : Nat} {I : Nat → Nat → Int32} {J : Nat → Nat → Int64} {a b : Nat} (ha : a < 5) (hb : b < 6) {v : Int32} (hv : f_isGoodness v = 1) : GM (d + 1) 73 [.ref 0, .int (nI a), .int (nI b), .int v] (qS sw gc I J) (some (.int (I (6 * a + b + 16) 0))) (qS sw gc (q_u I (6 * a + b + 16) 0 v) J) := by
  refine GM_of (by decide) (Nat.le_refl _) (Nat.le_of_ble_eq_true rfl) trivial ?_
  refine G_st (L := 89) (k := 0) (0, [some (.ref 0), some (.int (nI a)), some (.int (nI b)), some (.int v), none, none], [], qS sw gc I J) (q_hn _ _ _ _) rfl ?_
  refine G_st (L := 89) (k := 4) (6, [some (.ref 0), some (.int (nI a)), some (.int (nI b)), some (.int v), none, none], [.int (nI b), .int (nI a), .ref 14], qS sw gc I J) (q_hn _ _ _ _) rfl ?_
  refine G_callS (as := [.int (nI a), .int (nI b)]) (rest := [.ref 14]) rfl rfl rfl (Nat.le_of_ble_eq_true rfl) (x_ix_ok ha hb) (Nat.le_refl _) ?_
  refine G_st (L := 89) (k := 0) (9, [some (.ref 0), some (.int (nI a)), some (.int (nI b)), some (.int v), none, none], [.int (nI (6 * a + b)), .ref 14], qS sw gc I J) (q_hn _ _ _ _) rfl ?_
  refine G_callV (b := 14) (ci := 0) (as := [.int (nI (6 * a + b))]) (rest := []) rfl rfl rfl (q_lt (by decide)) (by decide) rfl rfl (Nat.le_of_ble_eq_true rfl) (x_wallAt (by omega)) (Nat.le_refl _) ?_
  refine G_st (L := 89) (k := 4) (20, [some (.ref 0), some (.int (nI a)), some (.int (nI b)), some (.int v), some (.ref (6 * a + b + 16)), none], [.int v], qS sw gc I J) (q_hn _ _ _ _) rfl ?_
  refine G_callS (as := [.int v]) (rest := []) rfl rfl rfl (Nat.le_of_ble_eq_true rfl) (GM_r (m_isGoodness v) hv) (Nat.le_refl _) ?_
  refine G_st (L := 89) (k := 0) (23, [some (.ref 0), some (.int (nI a)), some (.int (nI b)), some (.int v), some (.ref (6 * a + b + 16)), none], [.int 1], qS sw gc I J) (q_hn _ _ _ _) rfl ?_
  refine G_if_ne 28 rfl rfl (fun _ => ?_) (fun h9 => absurd h9 (by decide))
  refine G_st (L := 89) (k := 1) (30, [some (.ref 0), some (.int (nI a)), some (.int (nI b)), some (.int v), some (.ref (6 * a + b + 16)), none], [.ref (6 * a + b + 16)], qS sw gc I J) (q_hn _ _ _ _) rfl ?_
  refine G_get (ci := 7) (k := 0) (i := 6 * a + b + 16) rfl rfl (q_shW (by omega)) (q_ltW (by omega)) ?_
  refine G_st (L := 89) (k := 3) (38, [some (.ref 0), some (.int (nI a)), some (.int (nI b)), some (.int v), some (.ref (6 * a + b + 16)), some (.int (I (6 * a + b + 16) 0))], [.int v, .ref (6 * a + b + 16)], qS sw gc I J) (q_hn _ _ _ _) rfl ?_
  refine G_put (ci := 7) (k := 0) (i := 6 * a + b + 16) (M1 := qS sw gc (q_u I (6 * a + b + 16) 0 v) J) rfl rfl (q_shW (by omega)) (q_ltW (by omega)) rfl rfl rfl ?_
  refine G_st (L := 89) (k := 1) (43, [some (.ref 0), some (.int (nI a)), some (.int (nI b)), some (.int v), some (.ref (6 * a + b + 16)), some (.int (I (6 * a + b + 16) 0))], [.int (I (6 * a + b + 16) 0)], qS sw gc (q_u I (6 * a + b + 16) 0 v) J) (q_hn _ _ _ _) rfl ?_
  exact G_iret rfl rfl rfl rfl
theorem x_rockV {d : Nat} {sw : Bool} {gc : Nat} {I : Nat → Nat → Int32} {J : Nat → Nat → Int64} {a b : Nat} (ha : a < 5) (hb : b < 6) {v : Int32} (hv : f_isGoodness v = 0) : GM (d + 1) 73 [.ref 0, .int (nI a), .int (nI b), .int v] (qS sw gc I J) (some (.int (-1))) (qS sw gc I J) := by
  refine GM_of (by decide) (Nat.le_refl _) (Nat.le_of_ble_eq_true rfl) trivial ?_
  refine G_st (L := 89) (k := 0) (0, [some (.ref 0), some (.int (nI a)), some (.int (nI b)), some (.int v), none, none], [], qS sw gc I J) (q_hn _ _ _ _) rfl ?_
  refine G_st (L := 89) (k := 4) (6, [some (.ref 0), some (.int (nI a)), some (.int (nI b)), some (.int v), none, none], [.int (nI b), .int (nI a), .ref 14], qS sw gc I J) (q_hn _ _ _ _) rfl ?_
  refine G_callS (as := [.int (nI a), .int (nI b)]) (rest := [.ref 14]) rfl rfl rfl (Nat.le_of_ble_eq_true rfl) (x_ix_ok ha hb) (Nat.le_refl _) ?_
  refine G_st (L := 89) (k := 0) (9, [some (.ref 0), some (.int (nI a)), some (.int (nI b)), some (.int v), none, none], [.int (nI (6 * a + b)), .ref 14], qS sw gc I J) (q_hn _ _ _ _) rfl ?_
  refine G_callV (b := 14) (ci := 0) (as := [.int (nI (6 * a + b))]) (rest := []) rfl rfl rfl (q_lt (by decide)) (by decide) rfl rfl (Nat.le_of_ble_eq_true rfl) (x_wallAt (by omega)) (Nat.le_refl _) ?_
  refine G_st (L := 89) (k := 4) (20, [some (.ref 0), some (.int (nI a)), some (.int (nI b)), some (.int v), some (.ref (6 * a + b + 16)), none], [.int v], qS sw gc I J) (q_hn _ _ _ _) rfl ?_
  refine G_callS (as := [.int v]) (rest := []) rfl rfl rfl (Nat.le_of_ble_eq_true rfl) (GM_r (m_isGoodness v) hv) (Nat.le_refl _) ?_
  refine G_st (L := 89) (k := 0) (23, [some (.ref 0), some (.int (nI a)), some (.int (nI b)), some (.int v), some (.ref (6 * a + b + 16)), none], [.int 0], qS sw gc I J) (q_hn _ _ _ _) rfl ?_
  refine G_if_ne 28 rfl rfl (fun h9 => absurd h9 (by decide)) (fun _ => ?_)
  refine G_st (L := 89) (k := 1) (27, [some (.ref 0), some (.int (nI a)), some (.int (nI b)), some (.int v), some (.ref (6 * a + b + 16)), none], [.int (-1)], qS sw gc I J) (q_hn _ _ _ _) rfl ?_
  exact G_iret rfl rfl rfl rfl
theorem x_rockF {d : Nat} {sw : Bool} {gc : Nat} {I : Nat → Nat → Int32} {J : Nat → Nat → Int64} {g c : Int32} (hbad : g < 0 ∨ nI 5 ≤ g ∨ c < 0 ∨ nI 6 ≤ c) {v : Int32} : GM (d + 1) 73 [.ref 0, .int g, .int c, .int v] (qS sw gc I J) (some (.int (-1))) (qS sw gc I J) := by
  refine GM_of (by decide) (Nat.le_refl _) (Nat.le_of_ble_eq_true rfl) trivial ?_
  refine G_st (L := 89) (k := 0) (0, [some (.ref 0), some (.int g), some (.int c), some (.int v), none, none], [], qS sw gc I J) (q_hn _ _ _ _) rfl ?_
  refine G_st (L := 89) (k := 4) (6, [some (.ref 0), some (.int g), some (.int c), some (.int v), none, none], [.int c, .int g, .ref 14], qS sw gc I J) (q_hn _ _ _ _) rfl ?_
  refine G_callS (as := [.int g, .int c]) (rest := [.ref 14]) rfl rfl rfl (Nat.le_of_ble_eq_true rfl) (x_ix_bad hbad) (Nat.le_refl _) ?_
  refine G_st (L := 89) (k := 0) (9, [some (.ref 0), some (.int g), some (.int c), some (.int v), none, none], [.int (-4), .ref 14], qS sw gc I J) (q_hn _ _ _ _) rfl ?_
  refine G_callV (b := 14) (ci := 0) (as := [.int (-4)]) (rest := []) rfl rfl rfl (q_lt (by decide)) (by decide) rfl rfl (Nat.le_of_ble_eq_true rfl) (x_wallAtN (Or.inl (by decide))) (Nat.le_refl _) ?_
  refine G_st (L := 89) (k := 4) (27, [some (.ref 0), some (.int g), some (.int c), some (.int v), some (.null), none], [.int (-1)], qS sw gc I J) (q_hn _ _ _ _) rfl ?_
  exact G_iret rfl rfl rfl rfl
theorem q_out4 {x : Int32} (h0 : ¬ x = 0) (h1 : ¬ x = 1) (h2 : ¬ x = 2) (h3 : ¬ x = 3) : x.toInt < 0 ∨ 3 < x.toInt := by
  have e0 : (0 : Int32).toInt = 0 := rfl
  have e1 : (1 : Int32).toInt = 1 := rfl
  have e2 : (2 : Int32).toInt = 2 := rfl
  have e3 : (3 : Int32).toInt = 3 := rfl
  rw [q_eq_int, e0] at h0
  rw [q_eq_int, e1] at h1
  rw [q_eq_int, e2] at h2
  rw [q_eq_int, e3] at h3
  omega
theorem q_out5 {x : Int32} (h0 : ¬ x = 0) (h1 : ¬ x = 1) (h2 : ¬ x = 2) (h3 : ¬ x = 3) (h4 : ¬ x = 4) : x.toInt < 0 ∨ 4 < x.toInt := by
  have e0 : (0 : Int32).toInt = 0 := rfl
  have e1 : (1 : Int32).toInt = 1 := rfl
  have e2 : (2 : Int32).toInt = 2 := rfl
  have e3 : (3 : Int32).toInt = 3 := rfl
  have e4 : (4 : Int32).toInt = 4 := rfl
  rw [q_eq_int, e0] at h0
  rw [q_eq_int, e1] at h1
  rw [q_eq_int, e2] at h2
  rw [q_eq_int, e3] at h3
  rw [q_eq_int, e4] at h4
  omega
theorem q_out6 {x : Int32} (h0 : ¬ x = 0) (h1 : ¬ x = 1) (h2 : ¬ x = 2) (h3 : ¬ x = 3) (h4 : ¬ x = 4) (h5 : ¬ x = 5) : x.toInt < 0 ∨ 5 < x.toInt := by
  have e0 : (0 : Int32).toInt = 0 := rfl
  have e1 : (1 : Int32).toInt = 1 := rfl
  have e2 : (2 : Int32).toInt = 2 := rfl
  have e3 : (3 : Int32).toInt = 3 := rfl
  have e4 : (4 : Int32).toInt = 4 := rfl
  have e5 : (5 : Int32).toInt = 5 := rfl
  rw [q_eq_int, e0] at h0
  rw [q_eq_int, e1] at h1
  rw [q_eq_int, e2] at h2
  rw [q_eq_int, e3] at h3
  rw [q_eq_int, e4] at h4
  rw [q_eq_int, e5] at h5
  omega
theorem q_out10 {x : Int32} (h0 : ¬ x = 0) (h1 : ¬ x = 1) (h2 : ¬ x = 2) (h3 : ¬ x = 3) (h4 : ¬ x = 4) (h5 : ¬ x = 5) (h6 : ¬ x = 6) (h7 : ¬ x = 7) (h8 : ¬ x = 8) (h9 : ¬ x = 9) : x.toInt < 0 ∨ 9 < x.toInt := by
  have e0 : (0 : Int32).toInt = 0 := rfl
  have e1 : (1 : Int32).toInt = 1 := rfl
  have e2 : (2 : Int32).toInt = 2 := rfl
  have e3 : (3 : Int32).toInt = 3 := rfl
  have e4 : (4 : Int32).toInt = 4 := rfl
  have e5 : (5 : Int32).toInt = 5 := rfl
  have e6 : (6 : Int32).toInt = 6 := rfl
  have e7 : (7 : Int32).toInt = 7 := rfl
  have e8 : (8 : Int32).toInt = 8 := rfl
  have e9 : (9 : Int32).toInt = 9 := rfl
  rw [q_eq_int, e0] at h0
  rw [q_eq_int, e1] at h1
  rw [q_eq_int, e2] at h2
  rw [q_eq_int, e3] at h3
  rw [q_eq_int, e4] at h4
  rw [q_eq_int, e5] at h5
  rw [q_eq_int, e6] at h6
  rw [q_eq_int, e7] at h7
  rw [q_eq_int, e8] at h8
  rw [q_eq_int, e9] at h9
  omega
def x_fc (I : Nat → Nat → Int32) (w : Nat) (q : Int32) : Int32 := if q = 0 then I (w + 16) 0 else if q = 1 then I (w + 16) 1 else if q = 2 then q_b (x_lo I w) else if q = 3 then q_b (x_may I w) else if q = 4 then I (w + 16) 3 else -1
theorem x_face {d : Nat} {sw : Bool} {gc : Nat} {I : Nat → Nat → Int32} {J : Nat → Nat → Int64} {a b : Nat} (ha : a < 5) (hb : b < 6) {q : Int32} : GM (d + 3) 74 [.ref 0, .int (nI a), .int (nI b), .int q] (qS sw gc I J) (some (.int (x_fc I (6 * a + b) q))) (qS sw gc I J) := by
  refine GM_of (by decide) (Nat.le_refl _) (Nat.le_of_ble_eq_true rfl) trivial ?_
  refine G_st (L := 89) (k := 0) (0, [some (.ref 0), some (.int (nI a)), some (.int (nI b)), some (.int q), none, none], [], qS sw gc I J) (q_hn _ _ _ _) rfl ?_
  refine G_st (L := 89) (k := 2) (2, [some (.ref 0), some (.int (nI a)), some (.int (nI b)), some (.int q), none, none], [.int (nI b), .int (nI a)], qS sw gc I J) (q_hn _ _ _ _) rfl ?_
  refine G_callS (as := [.int (nI a), .int (nI b)]) (rest := []) rfl rfl rfl (Nat.le_of_ble_eq_true rfl) (x_ix_ok ha hb) (Nat.le_refl _) ?_
  refine G_st (L := 89) (k := 4) (13, [some (.ref 0), some (.int (nI a)), some (.int (nI b)), some (.int q), some (.int (nI (6 * a + b))), none], [.int (nI (6 * a + b)), .ref 14], qS sw gc I J) (q_hn _ _ _ _) rfl ?_
  refine G_callV (b := 14) (ci := 0) (as := [.int (nI (6 * a + b))]) (rest := []) rfl rfl rfl (q_lt (by decide)) (by decide) rfl rfl (Nat.le_of_ble_eq_true rfl) (x_wallAt (by omega)) (Nat.le_refl _) ?_
  refine G_st (L := 89) (k := 4) (26, [some (.ref 0), some (.int (nI a)), some (.int (nI b)), some (.int q), some (.int (nI (6 * a + b))), some (.ref (6 * a + b + 16))], [.int q], qS sw gc I J) (q_hn _ _ _ _) rfl ?_
  by_cases hs0 : q = 0
  · refine G_tsIn 60 rfl (off := 34) (by rw [hs0]; decide) (by rw [hs0]; decide) (by rw [hs0]; rfl) rfl ?_
    refine G_st (L := 89) (k := 1) (62, [some (.ref 0), some (.int (nI a)), some (.int (nI b)), some (.int q), some (.int (nI (6 * a + b))), some (.ref (6 * a + b + 16))], [.ref (6 * a + b + 16)], qS sw gc I J) (q_hn _ _ _ _) rfl ?_
    refine G_get (ci := 7) (k := 0) (i := 6 * a + b + 16) rfl rfl (q_shW (by omega)) (q_ltW (by omega)) ?_
    refine G_st (L := 89) (k := 0) (65, [some (.ref 0), some (.int (nI a)), some (.int (nI b)), some (.int q), some (.int (nI (6 * a + b))), some (.ref (6 * a + b + 16))], [.int (I (6 * a + b + 16) 0)], qS sw gc I J) (q_hn _ _ _ _) rfl ?_
    exact G_iret rfl rfl (by rw [x_fc, if_pos hs0]) rfl
  by_cases hs1 : q = 1
  · refine G_tsIn 66 rfl (off := 40) (by rw [hs1]; decide) (by rw [hs1]; decide) (by rw [hs1]; rfl) rfl ?_
    refine G_st (L := 89) (k := 1) (68, [some (.ref 0), some (.int (nI a)), some (.int (nI b)), some (.int q), some (.int (nI (6 * a + b))), some (.ref (6 * a + b + 16))], [.ref (6 * a + b + 16)], qS sw gc I J) (q_hn _ _ _ _) rfl ?_
    refine G_get (ci := 7) (k := 1) (i := 6 * a + b + 16) rfl rfl (q_shW (by omega)) (q_ltW (by omega)) ?_
    refine G_st (L := 89) (k := 0) (71, [some (.ref 0), some (.int (nI a)), some (.int (nI b)), some (.int q), some (.int (nI (6 * a + b))), some (.ref (6 * a + b + 16))], [.int (I (6 * a + b + 16) 1)], qS sw gc I J) (q_hn _ _ _ _) rfl ?_
    exact G_iret rfl rfl (by rw [x_fc, if_neg hs0, if_pos hs1]) rfl
  by_cases hs2 : q = 2
  · refine G_tsIn 72 rfl (off := 46) (by rw [hs2]; decide) (by rw [hs2]; decide) (by rw [hs2]; rfl) rfl ?_
    refine G_st (L := 89) (k := 1) (74, [some (.ref 0), some (.int (nI a)), some (.int (nI b)), some (.int q), some (.int (nI (6 * a + b))), some (.ref (6 * a + b + 16))], [.ref (6 * a + b + 16)], qS sw gc I J) (q_hn _ _ _ _) rfl ?_
    refine G_get (ci := 7) (k := 2) (i := 6 * a + b + 16) rfl rfl (q_shW (by omega)) (q_ltW (by omega)) ?_
    refine G_st (L := 89) (k := 0) (77, [some (.ref 0), some (.int (nI a)), some (.int (nI b)), some (.int q), some (.int (nI (6 * a + b))), some (.ref (6 * a + b + 16))], [.int (I (6 * a + b + 16) 2)], qS sw gc I J) (q_hn _ _ _ _) rfl ?_
    refine G_if_eq 84 rfl rfl (fun h1 => ?_) (fun h1 => ?_)
    · skip
      refine G_st (L := 89) (k := 1) (85, [some (.ref 0), some (.int (nI a)), some (.int (nI b)), some (.int q), some (.int (nI (6 * a + b))), some (.ref (6 * a + b + 16))], [.int 0], qS sw gc I J) (q_hn _ _ _ _) rfl ?_
      exact G_iret rfl rfl (by rw [x_fc, if_neg hs0, if_neg hs1, if_pos hs2, x_lo, decide_eq_true h1]; rfl) rfl
    · skip
      refine G_st (L := 89) (k := 2) (85, [some (.ref 0), some (.int (nI a)), some (.int (nI b)), some (.int q), some (.int (nI (6 * a + b))), some (.ref (6 * a + b + 16))], [.int 1], qS sw gc I J) (q_hn _ _ _ _) rfl ?_
      exact G_iret rfl rfl (by rw [x_fc, if_neg hs0, if_neg hs1, if_pos hs2, x_lo, decide_eq_false h1]; rfl) rfl
  by_cases hs3 : q = 3
  · refine G_tsIn 86 rfl (off := 60) (by rw [hs3]; decide) (by rw [hs3]; decide) (by rw [hs3]; rfl) rfl ?_
    refine G_st (L := 89) (k := 3) (92, [some (.ref 0), some (.int (nI a)), some (.int (nI b)), some (.int q), some (.int (nI (6 * a + b))), some (.ref (6 * a + b + 16))], [.int (nI (6 * a + b)), .ref 14], qS sw gc I J) (q_hn _ _ _ _) rfl ?_
    refine G_callV (b := 14) (ci := 0) (as := [.int (nI (6 * a + b))]) (rest := []) rfl rfl rfl (q_lt (by decide)) (by decide) rfl rfl (Nat.le_of_ble_eq_true rfl) (x_mayBeWorked (by omega)) (Nat.le_refl _) ?_
    refine G_st (L := 89) (k := 0) (95, [some (.ref 0), some (.int (nI a)), some (.int (nI b)), some (.int q), some (.int (nI (6 * a + b))), some (.ref (6 * a + b + 16))], [.int (q_b (x_may I (6 * a + b)))], qS sw gc I J) (q_hn _ _ _ _) rfl ?_
    refine G_if_eq 102 rfl rfl (fun h2 => ?_) (fun h2 => ?_)
    · skip
      refine G_st (L := 89) (k := 1) (103, [some (.ref 0), some (.int (nI a)), some (.int (nI b)), some (.int q), some (.int (nI (6 * a + b))), some (.ref (6 * a + b + 16))], [.int 0], qS sw gc I J) (q_hn _ _ _ _) rfl ?_
      exact G_iret rfl rfl (by rw [x_fc, if_neg hs0, if_neg hs1, if_neg hs2, if_pos hs3, q_b0.mp h2]; rfl) rfl
    · skip
      refine G_st (L := 89) (k := 2) (103, [some (.ref 0), some (.int (nI a)), some (.int (nI b)), some (.int q), some (.int (nI (6 * a + b))), some (.ref (6 * a + b + 16))], [.int 1], qS sw gc I J) (q_hn _ _ _ _) rfl ?_
      exact G_iret rfl rfl (by rw [x_fc, if_neg hs0, if_neg hs1, if_neg hs2, if_pos hs3, q_b1 h2]; rfl) rfl
  by_cases hs4 : q = 4
  · refine G_tsIn 104 rfl (off := 78) (by rw [hs4]; decide) (by rw [hs4]; decide) (by rw [hs4]; rfl) rfl ?_
    refine G_st (L := 89) (k := 1) (106, [some (.ref 0), some (.int (nI a)), some (.int (nI b)), some (.int q), some (.int (nI (6 * a + b))), some (.ref (6 * a + b + 16))], [.ref (6 * a + b + 16)], qS sw gc I J) (q_hn _ _ _ _) rfl ?_
    refine G_get (ci := 7) (k := 3) (i := 6 * a + b + 16) rfl rfl (q_shW (by omega)) (q_ltW (by omega)) ?_
    refine G_st (L := 89) (k := 0) (109, [some (.ref 0), some (.int (nI a)), some (.int (nI b)), some (.int q), some (.int (nI (6 * a + b))), some (.ref (6 * a + b + 16))], [.int (I (6 * a + b + 16) 3)], qS sw gc I J) (q_hn _ _ _ _) rfl ?_
    exact G_iret rfl rfl (by rw [x_fc, if_neg hs0, if_neg hs1, if_neg hs2, if_neg hs3, if_pos hs4]) rfl
  refine G_tsOut 110 rfl (q_out5 hs0 hs1 hs2 hs3 hs4) rfl ?_
  refine G_st (L := 89) (k := 1) (111, [some (.ref 0), some (.int (nI a)), some (.int (nI b)), some (.int q), some (.int (nI (6 * a + b))), some (.ref (6 * a + b + 16))], [.int (-1)], qS sw gc I J) (q_hn _ _ _ _) rfl ?_
  exact G_iret rfl rfl (by rw [x_fc, if_neg hs0, if_neg hs1, if_neg hs2, if_neg hs3, if_neg hs4]) rfl
theorem x_faceF {d : Nat} {sw : Bool} {gc : Nat} {I : Nat → Nat → Int32} {J : Nat → Nat → Int64} {g c : Int32} (hbad : g < 0 ∨ nI 5 ≤ g ∨ c < 0 ∨ nI 6 ≤ c) {q : Int32} : GM (d + 3) 74 [.ref 0, .int g, .int c, .int q] (qS sw gc I J) (some (.int (-1))) (qS sw gc I J) := by
  refine GM_of (by decide) (Nat.le_refl _) (Nat.le_of_ble_eq_true rfl) trivial ?_
  refine G_st (L := 89) (k := 0) (0, [some (.ref 0), some (.int g), some (.int c), some (.int q), none, none], [], qS sw gc I J) (q_hn _ _ _ _) rfl ?_
  refine G_st (L := 89) (k := 2) (2, [some (.ref 0), some (.int g), some (.int c), some (.int q), none, none], [.int c, .int g], qS sw gc I J) (q_hn _ _ _ _) rfl ?_
  refine G_callS (as := [.int g, .int c]) (rest := []) rfl rfl rfl (Nat.le_of_ble_eq_true rfl) (x_ix_bad hbad) (Nat.le_refl _) ?_
  refine G_st (L := 89) (k := 4) (13, [some (.ref 0), some (.int g), some (.int c), some (.int q), some (.int (-4)), none], [.int (-4), .ref 14], qS sw gc I J) (q_hn _ _ _ _) rfl ?_
  refine G_callV (b := 14) (ci := 0) (as := [.int (-4)]) (rest := []) rfl rfl rfl (q_lt (by decide)) (by decide) rfl rfl (Nat.le_of_ble_eq_true rfl) (x_wallAtN (Or.inl (by decide))) (Nat.le_refl _) ?_
  refine G_st (L := 89) (k := 4) (24, [some (.ref 0), some (.int g), some (.int c), some (.int q), some (.int (-4)), some (.null)], [.int (-1)], qS sw gc I J) (q_hn _ _ _ _) rfl ?_
  exact G_iret rfl rfl rfl rfl
theorem x_clear {d : Nat} {sw : Bool} {gc : Nat} {I : Nat → Nat → Int32} {J : Nat → Nat → Int64} {a b : Nat} (ha : a < 5) (hb : b < 6) {k : Nat} (hgc : I 0 6 = nI gc) (hg : gc ≤ 8) (hk : k < gc) (hlo : ¬ I (6 * a + b + 16) 2 = 0) : GM (d + 1) 75 [.ref 0, .int (nI a), .int (nI b), .int (nI k)] (qS sw gc I J) (some (.int 1)) (qS sw gc (q_u (q_u I (6 * a + b + 16) 2 0) (2 * k + 89) 2 ((I (2 * k + 89) 2) + (20 * (I (2 * k + 89) 1)))) J) := by
  refine GM_of (by decide) (Nat.le_refl _) (Nat.le_of_ble_eq_true rfl) trivial ?_
  refine G_st (L := 89) (k := 0) (0, [some (.ref 0), some (.int (nI a)), some (.int (nI b)), some (.int (nI k)), none, none], [], qS sw gc I J) (q_hn _ _ _ _) rfl ?_
  refine G_st (L := 89) (k := 4) (6, [some (.ref 0), some (.int (nI a)), some (.int (nI b)), some (.int (nI k)), none, none], [.int (nI b), .int (nI a), .ref 14], qS sw gc I J) (q_hn _ _ _ _) rfl ?_
  refine G_callS (as := [.int (nI a), .int (nI b)]) (rest := [.ref 14]) rfl rfl rfl (Nat.le_of_ble_eq_true rfl) (x_ix_ok ha hb) (Nat.le_refl _) ?_
  refine G_st (L := 89) (k := 0) (9, [some (.ref 0), some (.int (nI a)), some (.int (nI b)), some (.int (nI k)), none, none], [.int (nI (6 * a + b)), .ref 14], qS sw gc I J) (q_hn _ _ _ _) rfl ?_
  refine G_callV (b := 14) (ci := 0) (as := [.int (nI (6 * a + b))]) (rest := []) rfl rfl rfl (q_lt (by decide)) (by decide) rfl rfl (Nat.le_of_ble_eq_true rfl) (x_wallAt (by omega)) (Nat.le_refl _) ?_
  refine G_st (L := 89) (k := 4) (17, [some (.ref 0), some (.int (nI a)), some (.int (nI b)), some (.int (nI k)), some (.ref (6 * a + b + 16)), none], [.long (Int32.toInt64 (nI k)), .ref 0], qS sw gc I J) (q_hn _ _ _ _) rfl ?_
  rw [show Int32.toInt64 (nI k) = lN k from (q_i2lP rfl (by omega))]
  refine G_callV (b := 0) (ci := 8) (as := [.long (lN k)]) (rest := []) rfl rfl rfl (q_lt (by decide)) (by decide) rfl rfl (Nat.le_of_ble_eq_true rfl) (x_gangAt hgc hg hk) (Nat.le_refl _) ?_
  refine G_st (L := 89) (k := 6) (36, [some (.ref 0), some (.int (nI a)), some (.int (nI b)), some (.int (nI k)), some (.ref (6 * a + b + 16)), some (.ref (2 * k + 89))], [.ref (6 * a + b + 16)], qS sw gc I J) (q_hn _ _ _ _) rfl ?_
  refine G_get (ci := 7) (k := 2) (i := 6 * a + b + 16) rfl rfl (q_shW (by omega)) (q_ltW (by omega)) ?_
  refine G_st (L := 89) (k := 0) (39, [some (.ref 0), some (.int (nI a)), some (.int (nI b)), some (.int (nI k)), some (.ref (6 * a + b + 16)), some (.ref (2 * k + 89))], [.int (I (6 * a + b + 16) 2)], qS sw gc I J) (q_hn _ _ _ _) rfl ?_
  refine G_if_ne 45 rfl rfl (fun _ => ?_) (fun h9 => absurd h9 hlo)
  refine G_st (L := 89) (k := 2) (48, [some (.ref 0), some (.int (nI a)), some (.int (nI b)), some (.int (nI k)), some (.ref (6 * a + b + 16)), some (.ref (2 * k + 89))], [.int 0, .ref (6 * a + b + 16)], qS sw gc I J) (q_hn _ _ _ _) rfl ?_
  refine G_put (ci := 7) (k := 2) (i := 6 * a + b + 16) (M1 := qS sw gc (q_u I (6 * a + b + 16) 2 0) J) rfl rfl (q_shW (by omega)) (q_ltW (by omega)) rfl rfl rfl ?_
  refine G_st (L := 89) (k := 2) (54, [some (.ref 0), some (.int (nI a)), some (.int (nI b)), some (.int (nI k)), some (.ref (6 * a + b + 16)), some (.ref (2 * k + 89))], [.ref (2 * k + 89), .ref (2 * k + 89)], qS sw gc (q_u I (6 * a + b + 16) 2 0) J) (q_hn _ _ _ _) rfl ?_
  refine G_get (ci := 1) (k := 2) (i := 2 * k + 89) rfl rfl (q_shG (by omega)).1 (q_ltG (by omega)).1 ?_
  rw [show q_av (qS sw gc (q_u I (6 * a + b + 16) 2 0) J) (2 * k + 89) (q_fty 1 2) 2 = .int (I (2 * k + 89) 2) from congrArg Value.int (show (q_u I (6 * a + b + 16) 2 0) (2 * k + 89) 2 = I (2 * k + 89) 2 from q_un _ _ (by omega))]
  refine G_st (L := 89) (k := 2) (61, [some (.ref 0), some (.int (nI a)), some (.int (nI b)), some (.int (nI k)), some (.ref (6 * a + b + 16)), some (.ref (2 * k + 89))], [.ref (2 * k + 89), .int 20, .int (I (2 * k + 89) 2), .ref (2 * k + 89)], qS sw gc (q_u I (6 * a + b + 16) 2 0) J) (q_hn _ _ _ _) rfl ?_
  refine G_get (ci := 1) (k := 1) (i := 2 * k + 89) rfl rfl (q_shG (by omega)).1 (q_ltG (by omega)).1 ?_
  rw [show q_av (qS sw gc (q_u I (6 * a + b + 16) 2 0) J) (2 * k + 89) (q_fty 1 1) 1 = .int (I (2 * k + 89) 1) from congrArg Value.int (show (q_u I (6 * a + b + 16) 2 0) (2 * k + 89) 1 = I (2 * k + 89) 1 from q_un _ _ (by omega))]
  refine G_st (L := 89) (k := 2) (66, [some (.ref 0), some (.int (nI a)), some (.int (nI b)), some (.int (nI k)), some (.ref (6 * a + b + 16)), some (.ref (2 * k + 89))], [.int ((I (2 * k + 89) 2) + (20 * (I (2 * k + 89) 1))), .ref (2 * k + 89)], qS sw gc (q_u I (6 * a + b + 16) 2 0) J) (q_hn _ _ _ _) rfl ?_
  refine G_put (ci := 1) (k := 2) (i := 2 * k + 89) (M1 := qS sw gc (q_u (q_u I (6 * a + b + 16) 2 0) (2 * k + 89) 2 ((I (2 * k + 89) 2) + (20 * (I (2 * k + 89) 1)))) J) rfl rfl (q_shG (by omega)).1 (q_ltG (by omega)).1 rfl rfl rfl ?_
  refine G_st (L := 89) (k := 1) (70, [some (.ref 0), some (.int (nI a)), some (.int (nI b)), some (.int (nI k)), some (.ref (6 * a + b + 16)), some (.ref (2 * k + 89))], [.int 1], qS sw gc (q_u (q_u I (6 * a + b + 16) 2 0) (2 * k + 89) 2 ((I (2 * k + 89) 2) + (20 * (I (2 * k + 89) 1)))) J) (q_hn _ _ _ _) rfl ?_
  exact G_iret rfl rfl rfl rfl
theorem x_clearS {d : Nat} {sw : Bool} {gc : Nat} {I : Nat → Nat → Int32} {J : Nat → Nat → Int64} {a b : Nat} (ha : a < 5) (hb : b < 6) {k : Nat} (hgc : I 0 6 = nI gc) (hg : gc ≤ 8) (hk : k < gc) (hlo : I (6 * a + b + 16) 2 = 0) : GM (d + 1) 75 [.ref 0, .int (nI a), .int (nI b), .int (nI k)] (qS sw gc I J) (some (.int (-2))) (qS sw gc I J) := by
  refine GM_of (by decide) (Nat.le_refl _) (Nat.le_of_ble_eq_true rfl) trivial ?_
  refine G_st (L := 89) (k := 0) (0, [some (.ref 0), some (.int (nI a)), some (.int (nI b)), some (.int (nI k)), none, none], [], qS sw gc I J) (q_hn _ _ _ _) rfl ?_
  refine G_st (L := 89) (k := 4) (6, [some (.ref 0), some (.int (nI a)), some (.int (nI b)), some (.int (nI k)), none, none], [.int (nI b), .int (nI a), .ref 14], qS sw gc I J) (q_hn _ _ _ _) rfl ?_
  refine G_callS (as := [.int (nI a), .int (nI b)]) (rest := [.ref 14]) rfl rfl rfl (Nat.le_of_ble_eq_true rfl) (x_ix_ok ha hb) (Nat.le_refl _) ?_
  refine G_st (L := 89) (k := 0) (9, [some (.ref 0), some (.int (nI a)), some (.int (nI b)), some (.int (nI k)), none, none], [.int (nI (6 * a + b)), .ref 14], qS sw gc I J) (q_hn _ _ _ _) rfl ?_
  refine G_callV (b := 14) (ci := 0) (as := [.int (nI (6 * a + b))]) (rest := []) rfl rfl rfl (q_lt (by decide)) (by decide) rfl rfl (Nat.le_of_ble_eq_true rfl) (x_wallAt (by omega)) (Nat.le_refl _) ?_
  refine G_st (L := 89) (k := 4) (17, [some (.ref 0), some (.int (nI a)), some (.int (nI b)), some (.int (nI k)), some (.ref (6 * a + b + 16)), none], [.long (Int32.toInt64 (nI k)), .ref 0], qS sw gc I J) (q_hn _ _ _ _) rfl ?_
  rw [show Int32.toInt64 (nI k) = lN k from (q_i2lP rfl (by omega))]
  refine G_callV (b := 0) (ci := 8) (as := [.long (lN k)]) (rest := []) rfl rfl rfl (q_lt (by decide)) (by decide) rfl rfl (Nat.le_of_ble_eq_true rfl) (x_gangAt hgc hg hk) (Nat.le_refl _) ?_
  refine G_st (L := 89) (k := 6) (36, [some (.ref 0), some (.int (nI a)), some (.int (nI b)), some (.int (nI k)), some (.ref (6 * a + b + 16)), some (.ref (2 * k + 89))], [.ref (6 * a + b + 16)], qS sw gc I J) (q_hn _ _ _ _) rfl ?_
  refine G_get (ci := 7) (k := 2) (i := 6 * a + b + 16) rfl rfl (q_shW (by omega)) (q_ltW (by omega)) ?_
  refine G_st (L := 89) (k := 0) (39, [some (.ref 0), some (.int (nI a)), some (.int (nI b)), some (.int (nI k)), some (.ref (6 * a + b + 16)), some (.ref (2 * k + 89))], [.int (I (6 * a + b + 16) 2)], qS sw gc I J) (q_hn _ _ _ _) rfl ?_
  refine G_if_ne 45 rfl rfl (fun h9 => absurd hlo h9) (fun _ => ?_)
  refine G_st (L := 89) (k := 1) (44, [some (.ref 0), some (.int (nI a)), some (.int (nI b)), some (.int (nI k)), some (.ref (6 * a + b + 16)), some (.ref (2 * k + 89))], [.int (-2)], qS sw gc I J) (q_hn _ _ _ _) rfl ?_
  exact G_iret rfl rfl rfl rfl
theorem x_clearG {d : Nat} {sw : Bool} {gc : Nat} {I : Nat → Nat → Int32} {J : Nat → Nat → Int64} {a b : Nat} (ha : a < 5) (hb : b < 6) {x : Int32} (hgc : I 0 6 = nI gc) (hg : gc ≤ 8) (hx : Int32.toInt64 x < 0 ∨ lN gc ≤ Int32.toInt64 x) : GM (d + 1) 75 [.ref 0, .int (nI a), .int (nI b), .int x] (qS sw gc I J) (some (.int (-1))) (qS sw gc I J) := by
  refine GM_of (by decide) (Nat.le_refl _) (Nat.le_of_ble_eq_true rfl) trivial ?_
  refine G_st (L := 89) (k := 0) (0, [some (.ref 0), some (.int (nI a)), some (.int (nI b)), some (.int x), none, none], [], qS sw gc I J) (q_hn _ _ _ _) rfl ?_
  refine G_st (L := 89) (k := 4) (6, [some (.ref 0), some (.int (nI a)), some (.int (nI b)), some (.int x), none, none], [.int (nI b), .int (nI a), .ref 14], qS sw gc I J) (q_hn _ _ _ _) rfl ?_
  refine G_callS (as := [.int (nI a), .int (nI b)]) (rest := [.ref 14]) rfl rfl rfl (Nat.le_of_ble_eq_true rfl) (x_ix_ok ha hb) (Nat.le_refl _) ?_
  refine G_st (L := 89) (k := 0) (9, [some (.ref 0), some (.int (nI a)), some (.int (nI b)), some (.int x), none, none], [.int (nI (6 * a + b)), .ref 14], qS sw gc I J) (q_hn _ _ _ _) rfl ?_
  refine G_callV (b := 14) (ci := 0) (as := [.int (nI (6 * a + b))]) (rest := []) rfl rfl rfl (q_lt (by decide)) (by decide) rfl rfl (Nat.le_of_ble_eq_true rfl) (x_wallAt (by omega)) (Nat.le_refl _) ?_
  refine G_st (L := 89) (k := 4) (17, [some (.ref 0), some (.int (nI a)), some (.int (nI b)), some (.int x), some (.ref (6 * a + b + 16)), none], [.long (Int32.toInt64 x), .ref 0], qS sw gc I J) (q_hn _ _ _ _) rfl ?_
  refine G_callV (b := 0) (ci := 8) (as := [.long (Int32.toInt64 x)]) (rest := []) rfl rfl rfl (q_lt (by decide)) (by decide) rfl rfl (Nat.le_of_ble_eq_true rfl) (x_gangAtN hgc hg hx) (Nat.le_refl _) ?_
  refine G_st (L := 89) (k := 6) (33, [some (.ref 0), some (.int (nI a)), some (.int (nI b)), some (.int x), some (.ref (6 * a + b + 16)), some (.null)], [.int (-1)], qS sw gc I J) (q_hn _ _ _ _) rfl ?_
  exact G_iret rfl rfl rfl rfl
theorem x_clearF {d : Nat} {sw : Bool} {gc : Nat} {I : Nat → Nat → Int32} {J : Nat → Nat → Int64} {g c : Int32} (hbad : g < 0 ∨ nI 5 ≤ g ∨ c < 0 ∨ nI 6 ≤ c) {k : Nat} (hgc : I 0 6 = nI gc) (hg : gc ≤ 8) (hk : k < gc) : GM (d + 1) 75 [.ref 0, .int g, .int c, .int (nI k)] (qS sw gc I J) (some (.int (-1))) (qS sw gc I J) := by
  refine GM_of (by decide) (Nat.le_refl _) (Nat.le_of_ble_eq_true rfl) trivial ?_
  refine G_st (L := 89) (k := 0) (0, [some (.ref 0), some (.int g), some (.int c), some (.int (nI k)), none, none], [], qS sw gc I J) (q_hn _ _ _ _) rfl ?_
  refine G_st (L := 89) (k := 4) (6, [some (.ref 0), some (.int g), some (.int c), some (.int (nI k)), none, none], [.int c, .int g, .ref 14], qS sw gc I J) (q_hn _ _ _ _) rfl ?_
  refine G_callS (as := [.int g, .int c]) (rest := [.ref 14]) rfl rfl rfl (Nat.le_of_ble_eq_true rfl) (x_ix_bad hbad) (Nat.le_refl _) ?_
  refine G_st (L := 89) (k := 0) (9, [some (.ref 0), some (.int g), some (.int c), some (.int (nI k)), none, none], [.int (-4), .ref 14], qS sw gc I J) (q_hn _ _ _ _) rfl ?_
  refine G_callV (b := 14) (ci := 0) (as := [.int (-4)]) (rest := []) rfl rfl rfl (q_lt (by decide)) (by decide) rfl rfl (Nat.le_of_ble_eq_true rfl) (x_wallAtN (Or.inl (by decide))) (Nat.le_refl _) ?_
  refine G_st (L := 89) (k := 4) (17, [some (.ref 0), some (.int g), some (.int c), some (.int (nI k)), some (.null), none], [.long (Int32.toInt64 (nI k)), .ref 0], qS sw gc I J) (q_hn _ _ _ _) rfl ?_
  rw [show Int32.toInt64 (nI k) = lN k from (q_i2lP rfl (by omega))]
  refine G_callV (b := 0) (ci := 8) (as := [.long (lN k)]) (rest := []) rfl rfl rfl (q_lt (by decide)) (by decide) rfl rfl (Nat.le_of_ble_eq_true rfl) (x_gangAt hgc hg hk) (Nat.le_refl _) ?_
  refine G_st (L := 89) (k := 4) (33, [some (.ref 0), some (.int g), some (.int c), some (.int (nI k)), some (.null), some (.ref (2 * k + 89))], [.int (-1)], qS sw gc I J) (q_hn _ _ _ _) rfl ?_
  exact G_iret rfl rfl rfl rfl
theorem x_clearFG {d : Nat} {sw : Bool} {gc : Nat} {I : Nat → Nat → Int32} {J : Nat → Nat → Int64} {g c : Int32} (hbad : g < 0 ∨ nI 5 ≤ g ∨ c < 0 ∨ nI 6 ≤ c) {x : Int32} (hgc : I 0 6 = nI gc) (hg : gc ≤ 8) (hx : Int32.toInt64 x < 0 ∨ lN gc ≤ Int32.toInt64 x) : GM (d + 1) 75 [.ref 0, .int g, .int c, .int x] (qS sw gc I J) (some (.int (-1))) (qS sw gc I J) := by
  refine GM_of (by decide) (Nat.le_refl _) (Nat.le_of_ble_eq_true rfl) trivial ?_
  refine G_st (L := 89) (k := 0) (0, [some (.ref 0), some (.int g), some (.int c), some (.int x), none, none], [], qS sw gc I J) (q_hn _ _ _ _) rfl ?_
  refine G_st (L := 89) (k := 4) (6, [some (.ref 0), some (.int g), some (.int c), some (.int x), none, none], [.int c, .int g, .ref 14], qS sw gc I J) (q_hn _ _ _ _) rfl ?_
  refine G_callS (as := [.int g, .int c]) (rest := [.ref 14]) rfl rfl rfl (Nat.le_of_ble_eq_true rfl) (x_ix_bad hbad) (Nat.le_refl _) ?_
  refine G_st (L := 89) (k := 0) (9, [some (.ref 0), some (.int g), some (.int c), some (.int x), none, none], [.int (-4), .ref 14], qS sw gc I J) (q_hn _ _ _ _) rfl ?_
  refine G_callV (b := 14) (ci := 0) (as := [.int (-4)]) (rest := []) rfl rfl rfl (q_lt (by decide)) (by decide) rfl rfl (Nat.le_of_ble_eq_true rfl) (x_wallAtN (Or.inl (by decide))) (Nat.le_refl _) ?_
  refine G_st (L := 89) (k := 4) (17, [some (.ref 0), some (.int g), some (.int c), some (.int x), some (.null), none], [.long (Int32.toInt64 x), .ref 0], qS sw gc I J) (q_hn _ _ _ _) rfl ?_
  refine G_callV (b := 0) (ci := 8) (as := [.long (Int32.toInt64 x)]) (rest := []) rfl rfl rfl (q_lt (by decide)) (by decide) rfl rfl (Nat.le_of_ble_eq_true rfl) (x_gangAtN hgc hg hx) (Nat.le_refl _) ?_
  refine G_st (L := 89) (k := 4) (33, [some (.ref 0), some (.int g), some (.int c), some (.int x), some (.null), some (.null)], [.int (-1)], qS sw gc I J) (q_hn _ _ _ _) rfl ?_
  exact G_iret rfl rfl rfl rfl
def x_td (I : Nat → Nat → Int32) (k : Nat) (q : Int32) : Int32 := if q = 0 then I (2 * k + 89) 1 else if q = 1 then I (2 * k + 89) 2 else if q = 2 then I (2 * k + 89) 3 else if q = 3 then I (2 * k + 89) 4 else if q = 4 then I (2 * k + 89) 5 else if q = 5 then I (2 * k + 89) 6 else -1000000
theorem x_told {d : Nat} {sw : Bool} {gc : Nat} {I : Nat → Nat → Int32} {J : Nat → Nat → Int64} {k : Nat} (hgc : I 0 6 = nI gc) (hg : gc ≤ 8) (hk : k < gc) {q : Int32} : GM (d + 1) 77 [.ref 0, .int (nI k), .int q] (qS sw gc I J) (some (.int (x_td I k q))) (qS sw gc I J) := by
  refine GM_of (by decide) (Nat.le_refl _) (Nat.le_of_ble_eq_true rfl) trivial ?_
  refine G_st (L := 89) (k := 0) (0, [some (.ref 0), some (.int (nI k)), some (.int q), none], [], qS sw gc I J) (q_hn _ _ _ _) rfl ?_
  refine G_st (L := 89) (k := 3) (3, [some (.ref 0), some (.int (nI k)), some (.int q), none], [.long (Int32.toInt64 (nI k)), .ref 0], qS sw gc I J) (q_hn _ _ _ _) rfl ?_
  rw [show Int32.toInt64 (nI k) = lN k from (q_i2lP rfl (by omega))]
  refine G_callV (b := 0) (ci := 8) (as := [.long (lN k)]) (rest := []) rfl rfl rfl (q_lt (by decide)) (by decide) rfl rfl (Nat.le_of_ble_eq_true rfl) (x_gangAt hgc hg hk) (Nat.le_refl _) ?_
  refine G_st (L := 89) (k := 4) (15, [some (.ref 0), some (.int (nI k)), some (.int q), some (.ref (2 * k + 89))], [.int q], qS sw gc I J) (q_hn _ _ _ _) rfl ?_
  by_cases hs0 : q = 0
  · refine G_tsIn 52 rfl (off := 37) (by rw [hs0]; decide) (by rw [hs0]; decide) (by rw [hs0]; rfl) rfl ?_
    refine G_st (L := 89) (k := 1) (53, [some (.ref 0), some (.int (nI k)), some (.int q), some (.ref (2 * k + 89))], [.ref (2 * k + 89)], qS sw gc I J) (q_hn _ _ _ _) rfl ?_
    refine G_get (ci := 1) (k := 1) (i := 2 * k + 89) rfl rfl (q_shG (by omega)).1 (q_ltG (by omega)).1 ?_
    refine G_st (L := 89) (k := 0) (56, [some (.ref 0), some (.int (nI k)), some (.int q), some (.ref (2 * k + 89))], [.int (I (2 * k + 89) 1)], qS sw gc I J) (q_hn _ _ _ _) rfl ?_
    exact G_iret rfl rfl (by rw [x_td, if_pos hs0]) rfl
  by_cases hs1 : q = 1
  · refine G_tsIn 57 rfl (off := 42) (by rw [hs1]; decide) (by rw [hs1]; decide) (by rw [hs1]; rfl) rfl ?_
    refine G_st (L := 89) (k := 1) (58, [some (.ref 0), some (.int (nI k)), some (.int q), some (.ref (2 * k + 89))], [.ref (2 * k + 89)], qS sw gc I J) (q_hn _ _ _ _) rfl ?_
    refine G_get (ci := 1) (k := 2) (i := 2 * k + 89) rfl rfl (q_shG (by omega)).1 (q_ltG (by omega)).1 ?_
    refine G_st (L := 89) (k := 0) (61, [some (.ref 0), some (.int (nI k)), some (.int q), some (.ref (2 * k + 89))], [.int (I (2 * k + 89) 2)], qS sw gc I J) (q_hn _ _ _ _) rfl ?_
    exact G_iret rfl rfl (by rw [x_td, if_neg hs0, if_pos hs1]) rfl
  by_cases hs2 : q = 2
  · refine G_tsIn 62 rfl (off := 47) (by rw [hs2]; decide) (by rw [hs2]; decide) (by rw [hs2]; rfl) rfl ?_
    refine G_st (L := 89) (k := 1) (63, [some (.ref 0), some (.int (nI k)), some (.int q), some (.ref (2 * k + 89))], [.ref (2 * k + 89)], qS sw gc I J) (q_hn _ _ _ _) rfl ?_
    refine G_get (ci := 1) (k := 3) (i := 2 * k + 89) rfl rfl (q_shG (by omega)).1 (q_ltG (by omega)).1 ?_
    refine G_st (L := 89) (k := 0) (66, [some (.ref 0), some (.int (nI k)), some (.int q), some (.ref (2 * k + 89))], [.int (I (2 * k + 89) 3)], qS sw gc I J) (q_hn _ _ _ _) rfl ?_
    exact G_iret rfl rfl (by rw [x_td, if_neg hs0, if_neg hs1, if_pos hs2]) rfl
  by_cases hs3 : q = 3
  · refine G_tsIn 67 rfl (off := 52) (by rw [hs3]; decide) (by rw [hs3]; decide) (by rw [hs3]; rfl) rfl ?_
    refine G_st (L := 89) (k := 1) (68, [some (.ref 0), some (.int (nI k)), some (.int q), some (.ref (2 * k + 89))], [.ref (2 * k + 89)], qS sw gc I J) (q_hn _ _ _ _) rfl ?_
    refine G_get (ci := 1) (k := 4) (i := 2 * k + 89) rfl rfl (q_shG (by omega)).1 (q_ltG (by omega)).1 ?_
    refine G_st (L := 89) (k := 0) (71, [some (.ref 0), some (.int (nI k)), some (.int q), some (.ref (2 * k + 89))], [.int (I (2 * k + 89) 4)], qS sw gc I J) (q_hn _ _ _ _) rfl ?_
    exact G_iret rfl rfl (by rw [x_td, if_neg hs0, if_neg hs1, if_neg hs2, if_pos hs3]) rfl
  by_cases hs4 : q = 4
  · refine G_tsIn 72 rfl (off := 57) (by rw [hs4]; decide) (by rw [hs4]; decide) (by rw [hs4]; rfl) rfl ?_
    refine G_st (L := 89) (k := 1) (73, [some (.ref 0), some (.int (nI k)), some (.int q), some (.ref (2 * k + 89))], [.ref (2 * k + 89)], qS sw gc I J) (q_hn _ _ _ _) rfl ?_
    refine G_get (ci := 1) (k := 5) (i := 2 * k + 89) rfl rfl (q_shG (by omega)).1 (q_ltG (by omega)).1 ?_
    refine G_st (L := 89) (k := 0) (76, [some (.ref 0), some (.int (nI k)), some (.int q), some (.ref (2 * k + 89))], [.int (I (2 * k + 89) 5)], qS sw gc I J) (q_hn _ _ _ _) rfl ?_
    exact G_iret rfl rfl (by rw [x_td, if_neg hs0, if_neg hs1, if_neg hs2, if_neg hs3, if_pos hs4]) rfl
  by_cases hs5 : q = 5
  · refine G_tsIn 77 rfl (off := 62) (by rw [hs5]; decide) (by rw [hs5]; decide) (by rw [hs5]; rfl) rfl ?_
    refine G_st (L := 89) (k := 1) (78, [some (.ref 0), some (.int (nI k)), some (.int q), some (.ref (2 * k + 89))], [.ref (2 * k + 89)], qS sw gc I J) (q_hn _ _ _ _) rfl ?_
    refine G_get (ci := 1) (k := 6) (i := 2 * k + 89) rfl rfl (q_shG (by omega)).1 (q_ltG (by omega)).1 ?_
    refine G_st (L := 89) (k := 0) (81, [some (.ref 0), some (.int (nI k)), some (.int q), some (.ref (2 * k + 89))], [.int (I (2 * k + 89) 6)], qS sw gc I J) (q_hn _ _ _ _) rfl ?_
    exact G_iret rfl rfl (by rw [x_td, if_neg hs0, if_neg hs1, if_neg hs2, if_neg hs3, if_neg hs4, if_pos hs5]) rfl
  refine G_tsOut 82 rfl (q_out6 hs0 hs1 hs2 hs3 hs4 hs5) rfl ?_
  refine G_st (L := 89) (k := 1) (84, [some (.ref 0), some (.int (nI k)), some (.int q), some (.ref (2 * k + 89))], [.int (-1000000)], qS sw gc I J) (q_hn _ _ _ _) rfl ?_
  exact G_iret rfl rfl (by rw [x_td, if_neg hs0, if_neg hs1, if_neg hs2, if_neg hs3, if_neg hs4, if_neg hs5]) rfl
theorem x_toldG {d : Nat} {sw : Bool} {gc : Nat} {I : Nat → Nat → Int32} {J : Nat → Nat → Int64} {x : Int32} (hgc : I 0 6 = nI gc) (hg : gc ≤ 8) (hx : Int32.toInt64 x < 0 ∨ lN gc ≤ Int32.toInt64 x) {q : Int32} : GM (d + 1) 77 [.ref 0, .int x, .int q] (qS sw gc I J) (some (.int (-1000000))) (qS sw gc I J) := by
  refine GM_of (by decide) (Nat.le_refl _) (Nat.le_of_ble_eq_true rfl) trivial ?_
  refine G_st (L := 89) (k := 0) (0, [some (.ref 0), some (.int x), some (.int q), none], [], qS sw gc I J) (q_hn _ _ _ _) rfl ?_
  refine G_st (L := 89) (k := 3) (3, [some (.ref 0), some (.int x), some (.int q), none], [.long (Int32.toInt64 x), .ref 0], qS sw gc I J) (q_hn _ _ _ _) rfl ?_
  refine G_callV (b := 0) (ci := 8) (as := [.long (Int32.toInt64 x)]) (rest := []) rfl rfl rfl (q_lt (by decide)) (by decide) rfl rfl (Nat.le_of_ble_eq_true rfl) (x_gangAtN hgc hg hx) (Nat.le_refl _) ?_
  refine G_st (L := 89) (k := 4) (13, [some (.ref 0), some (.int x), some (.int q), some (.null)], [.int (-1000000)], qS sw gc I J) (q_hn _ _ _ _) rfl ?_
  exact G_iret rfl rfl rfl rfl
