theorem s_rng {x lo hi : Int32} {a b : Nat} (el : lo.toInt = a) (eh : hi.toInt = b) (h : f_i3 x lo hi = 1) (hb : b < 1000) : ∃ m, a ≤ m ∧ m ≤ b ∧ x = nI m := by
  unfold f_i3 at h
  by_cases h1 : x < lo
  · rw [if_pos h1] at h; exact absurd h (by decide)
  · rw [if_neg h1] at h
    by_cases h2 : hi < x
    · rw [if_pos h2] at h; exact absurd h (by decide)
    · rw [q_lt_int] at h1 h2
      refine ⟨x.toInt.toNat, by omega, by omega, ?_⟩
      rw [q_eq_int, nI_toInt (by omega)]
      omega
theorem s_slate (u v : Int32) : (f_isSlate u v = 1 ∧ f_i3 u 1 20 = 1 ∧ f_i3 v 1 200 = 1) ∨ (f_isSlate u v = 0 ∧ (f_i3 u 1 20 = 0 ∨ f_i3 v 1 200 = 0)) := by
  unfold f_isSlate f_i3
  by_cases h1 : u < 1
  · rw [if_pos h1, if_pos h1]; exact Or.inr ⟨rfl, Or.inl rfl⟩
  · rw [if_neg h1, if_neg h1]
    by_cases h2 : 20 < u
    · rw [if_pos h2, if_pos h2]; exact Or.inr ⟨rfl, Or.inl rfl⟩
    · rw [if_neg h2, if_neg h2]
      by_cases h3 : v < 1
      · rw [if_pos h3]; exact Or.inr ⟨rfl, Or.inr rfl⟩
      · rw [if_neg h3]
        by_cases h4 : 200 < v
        · rw [if_pos h4]; exact Or.inr ⟨rfl, Or.inr rfl⟩
        · rw [if_neg h4]; exact Or.inl ⟨rfl, rfl, rfl⟩
theorem s_size (u v : Int32) : s_Stp 82 129 [.int u, .int v] := by
  intro d sw gc I J h
  rcases s_slate u v with ⟨h1, h2, h3⟩ | ⟨h1, h2⟩
  · obtain ⟨tp, bk, wl, gg, un, ac, sc, ⟨n, L, P, z1, z2, z3, z4⟩, sh⟩ := h
    by_cases h8 : n < 8
    · obtain ⟨lu, l1, l2, eu⟩ := s_rng (a := 1) (b := 20) rfl rfl h2 (by decide)
      obtain ⟨pv, p1, p2, ev⟩ := s_rng (a := 1) (b := 200) rfl rfl h3 (by decide)
      have hu : ∀ i j, ¬ (i = 48 ∧ j = n) → ¬ (i = 49 ∧ j = n) → ¬ (i = 47 ∧ j = 3) → ¬ (i = 82 ∧ j = n) → ¬ (i = 83 ∧ j = n) → ¬ (i = 62 ∧ j = 32) → q_u (q_u (q_u (q_u (q_u (q_u I 48 n u) 49 n v) 47 3 (nI (n + 1))) 82 n u) 83 n v) 62 32 (nI (n + 1)) i j = I i j := by
        intro i j a1 a2 a3 a4 a5 a6
        rw [q_un _ _ a6, q_un _ _ a5, q_un _ _ a4, q_un _ _ a3, q_un _ _ a2, q_un _ _ a1]
      have R := r_size (d := d + 11) (sw := sw) (gc := gc) (J := J) (I := q_u (q_u (q_u I 48 n u) 49 n v) 47 3 (nI (n + 1))) h2 h3 (n := n) (by rw [q_un _ _ (by omega), q_un _ _ (by omega), q_un _ _ (by omega)]; exact z2.1) h8
      have e48 : q_u (q_u (q_u (q_u (q_u (q_u I 48 n u) 49 n v) 47 3 (nI (n + 1))) 82 n u) 83 n v) 62 32 (nI (n + 1)) 48 n = nI lu := by
        rw [q_un _ _ (by omega), q_un _ _ (by omega), q_un _ _ (by omega), q_un _ _ (by omega), q_un _ _ (by omega), q_us]; exact eu
      have e49 : q_u (q_u (q_u (q_u (q_u (q_u I 48 n u) 49 n v) 47 3 (nI (n + 1))) 82 n u) 83 n v) 62 32 (nI (n + 1)) 49 n = v := by
        rw [q_un _ _ (by omega), q_un _ _ (by omega), q_un _ _ (by omega), q_un _ _ (by omega), q_us]
      have e82 : q_u (q_u (q_u (q_u (q_u (q_u I 48 n u) 49 n v) 47 3 (nI (n + 1))) 82 n u) 83 n v) 62 32 (nI (n + 1)) 82 n = nI lu := by
        rw [q_un _ _ (by omega), q_un _ _ (by omega), q_us]; exact eu
      have e83 : q_u (q_u (q_u (q_u (q_u (q_u I 48 n u) 49 n v) 47 3 (nI (n + 1))) 82 n u) 83 n v) 62 32 (nI (n + 1)) 83 n = v := by
        rw [q_un _ _ (by omega), q_us]
      refine ⟨_, sw, gc, _, J, _, J, Nat.le_refl _, x_size (d := d + 11) h1 z1.1 h8, R, s_tp_c tp (fun i j hi => hu i j (by omega) (by omega) (by omega) (by omega) (by omega) (by omega)), s_bk_c bk (fun i j hi => hu i j (by omega) (by omega) (by omega) (by omega) (by omega) (by omega)), s_wl_c wl (fun i j hi => hu i j (by omega) (by omega) (by omega) (by omega) (by omega) (by omega)), s_gg_c gg (fun i j hi => hu i j (by omega) (by omega) (by omega) (by omega) (by omega) (by omega)), s_un_c un (fun i j hi => hu i j (by omega) (by omega) (by omega) (by omega) (by omega) (by omega)), s_ac_c ac (fun i j hi => hu i j (by omega) (by omega) (by omega) (by omega) (by omega) (by omega)), s_sc_c sc (fun i j hi => hu i j (by omega) (by omega) (by omega) (by omega) (by omega) (by omega)), ⟨n + 1, (fun k => if k = n then lu else L k), (fun k => if k = n then pv else P k), ⟨?_, h8, fun k hk => ?_⟩, ⟨q_us _ _ _ _, h8, fun k hk => ?_⟩, fun k hk => ?_, fun k hk => ?_⟩, s_sh_c sh (fun i j hi => hu i j (by omega) (by omega) (by omega) (by omega) (by omega) (by omega)) (fun _ _ _ => rfl)⟩
      · rw [q_un _ _ (by omega), q_un _ _ (by omega), q_un _ _ (by omega), q_us]
      · show _ = nI (if k = n then lu else L k) ∧ 1 ≤ (if k = n then lu else L k) ∧ (if k = n then lu else L k) ≤ 20
        by_cases e : k = n
        · subst e; rw [if_pos rfl, e48]; exact ⟨rfl, l1, l2⟩
        · rw [if_neg e, hu 48 k (by omega) (by omega) (by omega) (by omega) (by omega) (by omega)]; exact z1.2.2 k (by omega)
      · show _ = nI (if k = n then lu else L k) ∧ 1 ≤ (if k = n then lu else L k) ∧ (if k = n then lu else L k) ≤ 20 ∧ _ = nI (if k = n then pv else P k) ∧ (if k = n then pv else P k) ≤ 200
        by_cases e : k = n
        · subst e; rw [if_pos rfl, if_pos rfl, e82, e83]; exact ⟨rfl, l1, l2, ev, p2⟩
        · rw [if_neg e, if_neg e, hu 82 k (by omega) (by omega) (by omega) (by omega) (by omega) (by omega), hu 83 k (by omega) (by omega) (by omega) (by omega) (by omega) (by omega)]; exact z2.2.2 k (by omega)
      · by_cases e : k = n
        · subst e; rw [e49, e83]
        · rw [hu 49 k (by omega) (by omega) (by omega) (by omega) (by omega) (by omega), hu 83 k (by omega) (by omega) (by omega) (by omega) (by omega) (by omega)]; exact z3 k (by omega)
      · rw [hu 50 k (by omega) (by omega) (by omega) (by omega) (by omega) (by omega), hu 84 k (by omega) (by omega) (by omega) (by omega) (by omega) (by omega)]; exact z4 k hk
    · obtain rfl : n = 8 := by have := z1.2.1; omega
      exact s_keep ⟨tp, bk, wl, gg, un, ac, sc, ⟨8, L, P, z1, z2, z3, z4⟩, sh⟩ (x_sizeF (d := d + 11) h1 z1.1) (r_sizeF (d := d + 11) h2 h3 z2.1)
  · exact s_keep h (x_sizeB (d := d + 11) h1) (r_sizeB (d := d + 11) h2)
theorem s_slates (x : Int32) : s_Stp 86 139 [.int x] := by
  intro d sw gc I J h
  obtain ⟨n, L, P, z1, z2, z3, z4⟩ := h.2.2.2.2.2.2.2.1
  have h8 := z1.2.1
  rcases q_ix x (n := n) (by omega) with ⟨k, hk, rfl⟩ | hx
  · exact s_keep h (x_slates (d := d + 10) z1 hk) (GM_r (r_slates (d := d + 11) z2.1 h8 hk) (z4 k (by omega)).symm)
  · exact s_keep h (x_slatesB (d := d + 10) z1 hx) (r_slatesB (d := d + 11) z2.1 h8 hx)
theorem s_lane01 (u : Int32) : f_isLane u = 1 ∨ f_isLane u = 0 := f_i3_01 u 0 2
theorem s_sheet (x u v : Int32) : s_Stp 87 141 [.int x, .int u, .int v] := by
  intro d sw gc I J h
  rcases q_ix x (n := 4) (by decide) with ⟨k, hk, rfl⟩ | hx
  · rcases s_lane01 u with hu | hu
    · by_cases h60 : v ≤ 60
      · by_cases h0 : 0 ≤ v
        · obtain ⟨n, n0, n60, ev⟩ := s_rng (a := 0) (b := 60) (lo := 0) (hi := 60) rfl rfl (f_i3_1 (Int32.not_lt.mpr h0) (Int32.not_lt.mpr h60)) (by decide)
          obtain ⟨tp, bk, wl, gg, un, ac, sc, sz, sh⟩ := h
          have hh : ∀ i j, ¬ (i = 2 * k + 54 ∧ (j = 1 ∨ j = 2)) → ¬ (i = 86 ∧ j = k) → ¬ (i = 87 ∧ j = k) → q_u (q_u (q_u (q_u I (2 * k + 54) 2 u) (2 * k + 54) 1 v) 86 k u) 87 k v i j = I i j := by
            intro i j a1 a2 a3
            rw [q_un _ _ a3, q_un _ _ a2, q_un _ _ (by omega), q_un _ _ (by omega)]
          refine ⟨_, sw, gc, _, _, _, _, Nat.le_refl _, x_sheet (d := d + 10) hk hu h60 h0, r_sheet (d := d + 10) hk hu h60 h0, s_tp_c tp (fun i j hi => hh i j (by omega) (by omega) (by omega)), s_bk_c bk (fun i j hi => hh i j (by omega) (by omega) (by omega)), s_wl_c wl (fun i j hi => hh i j (by omega) (by omega) (by omega)), s_gg_c gg (fun i j hi => hh i j (by omega) (by omega) (by omega)), s_un_c un (fun i j hi => hh i j (by omega) (by omega) (by omega)), s_ac_c ac (fun i j hi => hh i j (by omega) (by omega) (by omega)), s_sc_c sc (fun i j hi => hh i j (by omega) (by omega) (by omega)), s_sz_c sz (fun i j hi => hh i j (by omega) (by omega) (by omega)), fun m hm => ?_⟩
          by_cases e : m = k
          · subst e
            have e1 : q_u (q_u (q_u (q_u I (2 * m + 54) 2 u) (2 * m + 54) 1 v) 86 m u) 87 m v (2 * m + 54) 2 = u := by rw [q_un _ _ (by omega), q_un _ _ (by omega), q_un _ _ (by omega), q_us]
            have e2 : q_u (q_u (q_u (q_u I (2 * m + 54) 2 u) (2 * m + 54) 1 v) 86 m u) 87 m v (2 * m + 54) 1 = v := by rw [q_un _ _ (by omega), q_un _ _ (by omega), q_us]
            have e3 : q_u (q_u (q_u (q_u I (2 * m + 54) 2 u) (2 * m + 54) 1 v) 86 m u) 87 m v 86 m = u := by rw [q_un _ _ (by omega), q_us]
            rw [e1, e2, e3, q_us]
            refine ⟨rfl, rfl, ⟨n, n60, ev⟩, fun i hi => ?_⟩
            unfold q_filL
            rw [if_neg (by omega), if_pos (by omega), if_pos (by omega)]
          · rw [hh (2 * m + 54) 2 (by omega) (by omega) (by omega), hh (2 * m + 54) 1 (by omega) (by omega) (by omega), hh 86 m (by omega) (by omega) (by omega), hh 87 m (by omega) (by omega) (by omega)]
            refine ⟨(sh m hm).1, (sh m hm).2.1, (sh m hm).2.2.1, fun i hi => ?_⟩
            unfold q_filL
            rw [if_neg (by omega), if_neg (by omega), if_neg (by omega), if_neg (by omega)]
            exact (sh m hm).2.2.2 i hi
        · exact s_keep h (x_sheetZ (d := d + 10) hk hu h60 h0) (r_sheetZ (d := d + 10) hk hu h60 h0)
      · exact s_keep h (x_sheetM (d := d + 10) hk hu h60) (r_sheetM (d := d + 10) hk hu h60)
    · exact s_keep h (x_sheetL (d := d + 10) hk hu) (r_sheetL (d := d + 10) hk hu)
  · exact s_keep h (x_sheetK (d := d + 10) hx) (r_sheetK (d := d + 10) hx)
theorem s_ix64 {n : Nat} (hn : n ≤ 60) {x : Int32} (h : x < 0 ∨ nI n ≤ x) : Int32.toInt64 x < 0 ∨ lN n ≤ Int32.toInt64 x := by
  rcases h with h | h
  · left
    rw [Int64.lt_iff_toInt_lt, Int32.toInt_toInt64]
    rw [q_lt_int] at h; exact h
  · right
    rw [Int64.le_iff_toInt_le, Int32.toInt_toInt64, lN_toInt (by omega)]
    rw [q_le_int, nI_toInt (by omega)] at h; exact h
theorem s_lay (x i : Int32) (v : Int64) : s_Stp 88 142 [.int x, .int i, .long v] := by
  intro d sw gc I J h
  rcases q_ix x (n := 4) (by decide) with ⟨k, hk, rfl⟩ | hx
  · obtain ⟨s1, s2, ⟨n, n60, en⟩, s4⟩ := h.2.2.2.2.2.2.2.2 k hk
    by_cases hla : I 86 k = -4
    · have hnt : x_nth I k = true := by unfold x_nth; rw [s1]; exact decide_eq_true hla
      exact s_keep h (x_layN (d := d + 10) hk hnt) (r_layN (d := d + 10) hk hla)
    · have hnt : x_nth I k = false := by unfold x_nth; rw [s1]; exact decide_eq_false hla
      rcases q_ix i (n := n) (by omega) with ⟨j, hj, rfl⟩ | hi
      · have X := x_lay (d := d + 10) (sw := sw) (gc := gc) (J := J) hk hnt (s2.trans en) n60 hj (v := v)
        rw [s1] at X
        have R := r_lay (d := d + 10) (sw := sw) (gc := gc) (J := q_u J (2 * k + 55) j (x_cut (I 86 k) v)) hk hla en n60 hj (v := v)
        obtain ⟨tp, bk, wl, gg, un, ac, sc, sz, sh⟩ := h
        refine ⟨_, sw, gc, _, _, _, _, Nat.le_refl _, X, R, tp, bk, wl, gg, un, ac, sc, sz, fun m hm => ⟨(sh m hm).1, (sh m hm).2.1, (sh m hm).2.2.1, fun i hi => ?_⟩⟩
        by_cases e : m = k ∧ i = j
        · obtain ⟨rfl, rfl⟩ := e
          rw [q_us, q_un _ _ (by omega), q_us]
        · rw [q_un _ _ (by omega), q_un _ _ (by omega), q_un _ _ (by omega), q_un _ _ (by omega)]
          exact (sh m hm).2.2.2 i hi
      · exact s_keep h (x_layI (d := d + 10) hk hnt (s2.trans en) n60 (s_ix64 n60 hi)) (r_layI (d := d + 10) hk hla en n60 hi)
  · exact s_keep h (x_layK (d := d + 10) hx) (r_layK (d := d + 10) hx)
theorem s_count (q : Int32) : s_Stp 90 144 [.int q] := by
  intro d sw gc I J h
  have X := x_count (d := d + 9) (sw := sw) (gc := gc) (I := I) (J := J) (q := q)
  obtain ⟨hg, hgc, hmg, _⟩ := h.2.2.2.1
  have wl := h.2.2.1
  have sc := h.2.2.2.2.2.2.1
  unfold x_cn at X
  by_cases h0 : q = 0
  · subst h0; rw [if_pos rfl] at X
    exact s_keep h X (GM_r (r_count0 (d := d + 11)) (hmg.trans hgc.symm))
  · rw [if_neg h0] at X
    by_cases h1 : q = 1
    · subst h1; rw [if_pos rfl] at X
      obtain ⟨n, L, P, z1, z2, _⟩ := h.2.2.2.2.2.2.2.1
      exact s_keep h X (GM_r (r_count1 (d := d + 11)) (z2.1.trans z1.1.symm))
    · rw [if_neg h1] at X
      by_cases h2 : q = 2
      · subst h2; rw [if_pos rfl] at X
        exact s_keep h X (GM_r (r_count2 (d := d + 11)) sc.2.2.1.symm)
      · rw [if_neg h2] at X
        by_cases h3 : q = 3
        · subst h3; rw [if_pos rfl] at X
          exact s_keep h X (GM_r (r_count3 (d := d + 11)) h.2.2.2.2.2.1.symm)
        · rw [if_neg h3] at X
          by_cases h4 : q = 4
          · subst h4; rw [if_pos rfl] at X
            exact s_keep h X (GM_r (r_count4 (d := d + 11)) (congrArg nI (q_cnt_c 30 0 (fun j _ hj => by unfold r_heldP x_heldP; rw [(wl j (by omega)).2.2.2]))))
          · rw [if_neg h4] at X
            by_cases h5 : q = 5
            · subst h5; rw [if_pos rfl] at X
              exact s_keep h X (GM_r (r_count5 (d := d + 11)) (congrArg nI (q_cnt_c 30 0 (fun j _ hj => (s_lo wl (by omega)).symm))))
            · rw [if_neg h5] at X
              by_cases h6 : q = 6
              · subst h6; rw [if_pos rfl] at X
                exact s_keep h X (GM_r (r_count6 (d := d + 11)) sc.2.2.2.1.symm)
              · rw [if_neg h6] at X
                by_cases h7 : q = 7
                · subst h7; rw [if_pos rfl] at X
                  exact s_keep h X (GM_r (r_count7 (d := d + 11)) sc.2.2.2.2.1.symm)
                · rw [if_neg h7] at X
                  by_cases h8 : q = 8
                  · subst h8; rw [if_pos rfl] at X
                    exact s_keep h X (GM_r (r_count8 (d := d + 11)) sc.2.2.2.2.2.symm)
                  · rw [if_neg h8] at X
                    by_cases h9 : q = 9
                    · subst h9; rw [if_pos rfl] at X
                      exact s_keep h X (GM_r (r_count9 (d := d + 11)) (s_tot h.2.1).symm)
                    · rw [if_neg h9] at X
                      exact s_keep h X (r_countQ (d := d + 11) (q_out10 h0 h1 h2 h3 h4 h5 h6 h7 h8 h9))
