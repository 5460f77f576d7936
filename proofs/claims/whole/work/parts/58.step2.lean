theorem s_num {sw : Bool} {I : Nat → Nat → Int32} (h : s_bk sw I) {k : Nat} (hk : k < 4) : x_num sw I k = r_lo I k := by
  obtain ⟨c, _, hD⟩ := h
  have key : ∀ b : Nat, ((I 64 k = -4 ∧ I (b + 2) k = 0 ∧ I (b + 1) k = [(-4 : Int32), -4, 0, 0].getD k 0) ∨ (¬ I 64 k = -4 ∧ I (b + 2) k = 1 ∧ I (b + 1) k = I 64 k)) → I (b + 1) k = r_lo I k := by
    intro b hb
    unfold r_lo
    rcases hb with ⟨h1, _, h2⟩ | ⟨h1, _, h2⟩
    · rw [if_pos h1, h2, h1]
      rcases (show k = 0 ∨ k = 1 ∨ k = 2 ∨ k = 3 by omega) with rfl | rfl | rfl | rfl <;> decide
    · rw [if_neg h1]; exact h2
  cases sw with
  | false => exact key 4 (hD.1 k hk)
  | true => exact key 9 (hD.1 k hk)
theorem s_pd4 {I : Nat → Nat → Int32} {g : Int32} : ∀ (m i : Nat), (∀ j, i ≤ j → j < i + m → I 7 j = I 65 j ∧ I 8 j = I 66 j) → x_pd4 I g m i = r_pd I g m i
  | 0, _, _ => rfl
  | m + 1, i, h => by
    unfold x_pd4 r_pd
    rw [(h i (Nat.le_refl _) (by omega)).1, (h i (Nat.le_refl _) (by omega)).2, s_pd4 m (i + 1) (fun j h1 h2 => h j (by omega) (by omega))]
theorem s_pd9 {I : Nat → Nat → Int32} {g : Int32} : ∀ (m i : Nat), (∀ j, i ≤ j → j < i + m → I 12 j = I 65 j ∧ I 13 j = I 66 j) → x_pd9 I g m i = r_pd I g m i
  | 0, _, _ => rfl
  | m + 1, i, h => by
    unfold x_pd9 r_pd
    rw [(h i (Nat.le_refl _) (by omega)).1, (h i (Nat.le_refl _) (by omega)).2, s_pd9 m (i + 1) (fun j h1 h2 => h j (by omega) (by omega))]
theorem s_pnd {sw : Bool} {I : Nat → Nat → Int32} (h : s_bk sw I) : ∃ c, c ≤ 4 ∧ I 62 9 = nI c ∧ x_pds sw I = nI c ∧ ∀ g, x_pnd sw I g c = r_pd I g c 0 := by
  obtain ⟨c, h1, hD⟩ := h
  refine ⟨c, hD.2.2.1, h1, ?_, fun g => ?_⟩
  · cases sw with
    | false => exact hD.2.1
    | true => exact hD.2.1
  · cases sw with
    | false => exact s_pd4 c 0 (fun j _ hj => hD.2.2.2.1 j (show j < c by omega))
    | true => exact s_pd9 c 0 (fun j _ hj => hD.2.2.2.1 j (show j < c by omega))
theorem s_tot {sw : Bool} {I : Nat → Nat → Int32} (h : s_bk sw I) : x_tot sw I = r_lm I := by
  obtain ⟨c, h1, hD⟩ := h
  have e : t_tot (I 64, c, I 65, I 66) = r_lm I := by
    unfold t_tot r_lm
    rw [h1]
  cases sw with
  | false => exact hD.2.2.2.2.trans e
  | true => exact hD.2.2.2.2.trans e
theorem s_good (v : Int32) : f_isGoodness (v - 10) = f_i3 v 10 19 := by
  show f_i3 (v - 10) 0 9 = f_i3 v 10 19
  rcases q_ix (v - 10) (n := 10) (by decide) with ⟨j, hj, e⟩ | hx
  · have e2 : v = nI (j + 10) := by
      rw [← Int32.sub_add_cancel v 10, e]
      exact q_addP rfl rfl
    rw [e, e2, show f_i3 (nI j) 0 9 = 1 from f_i3_n (n := 9) (by omega) (by decide)]
    exact (f_i3_1 (nI_nlt (b := 10) (by omega) (by omega)) (nI_nlt (a := 19) (by omega) (by decide))).symm
  · have l0 : f_i3 (v - 10) 0 9 = 0 := by
      refine f_i3_0 ?_
      rcases hx with h | h
      · exact Or.inl h
      · right
        rw [q_le_int, nI_toInt (by decide)] at h
        rw [q_lt_int, show (9 : Int32).toInt = 9 from rfl]; omega
    rw [l0]
    rcases q_ix v (n := 20) (by decide) with ⟨j, hj, rfl⟩ | h
    · by_cases h1 : j < 10
      · exact (f_i3_0 (Or.inl (nI_lt (b := 10) h1 (by decide)))).symm
      · rw [show nI j - 10 = nI (j - 10) from q_subP (a := j) (b := 10) rfl rfl (by omega)] at hx
        rcases hx with h2 | h2
        · exact absurd h2 (nI_pos (by omega))
        · exact absurd h2 (nI_ge (by omega) (by decide))
    · refine (f_i3_0 ?_).symm
      rcases h with h | h
      · left
        rw [q_lt_int, show (0 : Int32).toInt = 0 from rfl] at h
        rw [q_lt_int, show (10 : Int32).toInt = 10 from rfl]; omega
      · right
        rw [q_le_int, nI_toInt (by decide)] at h
        rw [q_lt_int, show (19 : Int32).toInt = 19 from rfl]; omega
theorem s_law (v : Int32) : s_Stp 72 115 [.int v] := by
  intro d sw gc I J h
  have hb := h.2.1
  rcases q_ix v (n := 4) (by decide) with ⟨k, hk, rfl⟩ | hv
  · exact s_keep h (x_law1 (d := d + 10) hk) (GM_r (r_law1 (d := d + 11) hk) (s_num hb hk).symm)
  · obtain ⟨c, c4, h1, h2, h3⟩ := s_pnd hb
    have h4 : f_i3 v 0 3 = 0 := q_b4 hv
    have h5 := s_good v
    rcases f_i3_01 v 10 19 with h6 | h6
    · exact s_keep h (x_law2 (d := d + 10) hv (h5.trans h6) h2 c4) (GM_r (r_law2 (d := d + 11) h4 h6 h1 c4) (h3 _).symm)
    · exact s_keep h (x_law3 (d := d + 10) hv (h5.trans h6)) (r_law3 (d := d + 11) h4 h6)
theorem s_rock (g c v : Int32) : s_Stp 73 118 [.int g, .int c, .int v] := by
  intro d sw gc I J h
  rcases q_face g c with ⟨a, b, ha, hb, rfl, rfl⟩ | hbad
  · rcases f_isGoodness_01 v with hv | hv
    · have hw := h.2.2.1 (6 * a + b) (by omega)
      have hu : ∀ i j, ¬ (i = 6 * a + b + 16 ∧ j = 0) → ¬ (i = 70 ∧ j = 6 * a + b) → q_u (q_u I (6 * a + b + 16) 0 v) 70 (6 * a + b) v i j = I i j := by
        intro i j h1 h2
        rw [q_un _ _ h2, q_un _ _ h1]
      obtain ⟨tp, bk, wl, gg, un, ac, sc, sz, sh⟩ := h
      refine ⟨_, sw, gc, _, J, _, J, Nat.le_refl _, x_rock (d := d + 11) ha hb hv, GM_r (r_rock (d := d + 10) ha hb hv) ((q_un _ _ (by omega)).trans hw.1.symm), s_tp_c tp (fun i j hi => hu i j (by omega) (by omega)), s_bk_c bk (fun i j hi => hu i j (by omega) (by omega)), ?_, s_gg_c gg (fun i j hi => hu i j (by omega) (by omega)), s_un_c un (fun i j hi => hu i j (by omega) (by omega)), s_ac_c ac (fun i j hi => hu i j (by omega) (by omega)), s_sc_c sc (fun i j hi => hu i j (by omega) (by omega)), s_sz_c sz (fun i j hi => hu i j (by omega) (by omega)), s_sh_c sh (fun i j hi => hu i j (by omega) (by omega)) (fun _ _ _ => rfl)⟩
      intro w hw2
      rw [hu (w + 16) 1 (by omega) (by omega), hu (w + 16) 2 (by omega) (by omega), hu (w + 16) 3 (by omega) (by omega), hu 71 w (by omega) (by omega), hu 72 w (by omega) (by omega), hu 73 w (by omega) (by omega)]
      refine ⟨?_, (wl w hw2).2⟩
      by_cases e : w = 6 * a + b
      · subst e
        rw [q_us, q_un _ _ (by omega), q_us]
      · rw [hu (w + 16) 0 (by omega) (by omega), hu 70 w (by omega) (by omega)]
        exact (wl w hw2).1
    · exact s_keep h (x_rockV (d := d + 11) ha hb hv) (r_rockV (d := d + 10) ha hb hv)
  · exact s_keep h (x_rockF (d := d + 11) hbad) (r_rockF (d := d + 10) hbad)
theorem s_mayN {I : Nat → Nat → Int32} (h : s_wl I) : ∀ (n w : Nat), x_mayN I n w = r_mayN I n w
  | 0, _ => rfl
  | n + 1, w => by
    unfold x_mayN r_mayN
    rw [s_mayN h n (w + 6)]
    by_cases hw : w < 30
    · rw [show x_lo I w = r_ls I w by unfold x_lo r_ls; rw [(h w hw).2.2.1]]
    · rw [Nat.ble_eq_true_of_le (show 30 ≤ w by omega)]; rfl
theorem s_may {I : Nat → Nat → Int32} (h : s_wl I) (w : Nat) : x_may I w = r_may I w := s_mayN h 6 w
theorem s_lo {I : Nat → Nat → Int32} (h : s_wl I) {w : Nat} (hw : w < 30) : x_lo I w = r_ls I w := by unfold x_lo r_ls; rw [(h w hw).2.2.1]
theorem q_i3_out {x : Int32} {n : Nat} {hi : Int32} (hn : hi.toInt = n) (h : x.toInt < 0 ∨ (n : Int) < x.toInt) : f_i3 x 0 hi = 0 := by
  refine f_i3_0 ?_
  rcases h with h | h
  · left; rw [q_lt_int, show (0 : Int32).toInt = 0 from rfl]; exact h
  · right; rw [q_lt_int, hn]; exact h
theorem s_facec (g c q : Int32) : s_Stp 74 120 [.int g, .int c, .int q] := by
  intro d sw gc I J h
  rcases q_face g c with ⟨a, b, ha, hb, rfl, rfl⟩ | hbad
  · have wl := h.2.2.1
    have hw := wl (6 * a + b) (by omega)
    have X := x_face (d := d + 9) (sw := sw) (gc := gc) (I := I) (J := J) ha hb (q := q)
    unfold x_fc at X
    by_cases h0 : q = 0
    · subst h0
      rw [if_pos rfl] at X
      exact s_keep h X (GM_r (r_face0 (d := d + 10) ha hb) hw.1.symm)
    · rw [if_neg h0] at X
      by_cases h1 : q = 1
      · subst h1
        rw [if_pos rfl] at X
        exact s_keep h X (GM_r (r_face1 (d := d + 10) ha hb) hw.2.1.symm)
      · rw [if_neg h1] at X
        by_cases h2 : q = 2
        · subst h2
          rw [if_pos rfl] at X
          exact s_keep h X (GM_r (r_face2 (d := d + 10) ha hb) (by rw [s_lo wl (by omega)]))
        · rw [if_neg h2] at X
          by_cases h3 : q = 3
          · subst h3
            rw [if_pos rfl] at X
            exact s_keep h X (GM_r (r_face3 (d := d + 10) ha hb) (by rw [s_may wl]))
          · rw [if_neg h3] at X
            by_cases h4 : q = 4
            · subst h4
              rw [if_pos rfl] at X
              exact s_keep h X (GM_r (r_face4 (d := d + 10) ha hb) hw.2.2.2.symm)
            · rw [if_neg h4] at X
              exact s_keep h X (r_faceQ (d := d + 10) ha hb (q_i3_out (n := 4) rfl (q_out5 h0 h1 h2 h3 h4)))
  · exact s_keep h (x_faceF (d := d + 9) hbad) (r_faceF (d := d + 10) hbad)
theorem s_gi {gc : Nat} (hg : gc ≤ 8) (x : Int32) : (∃ k, k < gc ∧ x = nI k) ∨ (Int32.toInt64 x < 0 ∨ lN gc ≤ Int32.toInt64 x) := by
  rcases q_ix x (n := gc) (by omega) with ⟨k, hk, e⟩ | h
  · exact Or.inl ⟨k, hk, e⟩
  · right
    rcases h with h | h
    · left
      rw [Int64.lt_iff_toInt_lt, Int32.toInt_toInt64]
      rw [q_lt_int] at h; exact h
    · right
      rw [Int64.le_iff_toInt_le, Int32.toInt_toInt64, lN_toInt (by omega)]
      rw [q_le_int, nI_toInt (by omega)] at h; exact h
theorem s_gg_k {gc k : Nat} {I I2 : Nat → Nat → Int32} (h : s_gg gc I) (e : ∀ i j, (i = 0 ∧ j = 6) ∨ (i = 62 ∧ j = 20) ∨ (89 ≤ i ∧ ¬ i = 2 * k + 89 ∧ ¬ i = 2 * k + 90) ∨ (74 ≤ i ∧ i ≤ 80 ∧ ¬ j = k) ∨ (i = 81 ∧ ¬ (30 * k ≤ j ∧ j < 30 * k + 30)) → I2 i j = I i j) (hk : k < gc → s_gs I2 k ∧ s_gm I2 k ∧ s_gk I2 k) : s_gg gc I2 := by
  refine ⟨h.1, by rw [e _ _ (by omega)]; exact h.2.1, by rw [e _ _ (by omega)]; exact h.2.2.1, fun j hj => ?_⟩
  by_cases ej : j = k
  · subst ej; exact hk hj
  · obtain ⟨h1, h2, h3⟩ := h.2.2.2 j hj
    exact ⟨s_gs_c h1 (fun i j hi => e i j (by omega)), s_gm_c h2 (fun i hi => e i j (by omega)), s_gk_c h3 (fun i w hw => ⟨fun hi => e i w (by omega), fun hi => e i _ (by omega)⟩)⟩
theorem s_clear (g c x : Int32) : s_Stp 75 121 [.int g, .int c, .int x] := by
  intro d sw gc I J h
  obtain ⟨hg, hgc, hmg, hgk⟩ := h.2.2.2.1
  rcases s_gi hg x with ⟨k, hk, rfl⟩ | hx
  · rcases q_face g c with ⟨a, b, ha, hb, rfl, rfl⟩ | hbad
    · have wl := h.2.2.1
      have hw := wl (6 * a + b) (by omega)
      by_cases hlo : I (6 * a + b + 16) 2 = 0
      · exact s_keep h (x_clearS (d := d + 11) ha hb hgc hg hk hlo) (r_clearS (d := d + 10) ha hb hmg hg hk (hw.2.2.1 ▸ hlo))
      · obtain ⟨tp, bk, wl, gg, un, ac, sc, sz, sh⟩ := h
        obtain ⟨gs, gm, gk⟩ := hgk k hk
        have hu : ∀ i j, ¬ (i = 6 * a + b + 16 ∧ j = 2) → ¬ (i = 2 * k + 89 ∧ j = 2) → ¬ (i = 72 ∧ j = 6 * a + b) → ¬ (i = 75 ∧ j = k) → q_u (q_u (q_u (q_u I (6 * a + b + 16) 2 0) (2 * k + 89) 2 ((I (2 * k + 89) 2) + (20 * (I (2 * k + 89) 1)))) 72 (6 * a + b) 0) 75 k (I 75 k + 20 * I 74 k) i j = I i j := by
          intro i j h1 h2 h3 h4
          rw [q_un _ _ h4, q_un _ _ h3, q_un _ _ h2, q_un _ _ h1]
        have R := r_clear (d := d + 10) (sw := sw) (gc := gc) (J := J) (I := q_u (q_u I (6 * a + b + 16) 2 0) (2 * k + 89) 2 ((I (2 * k + 89) 2) + (20 * (I (2 * k + 89) 1)))) ha hb (by rw [q_un _ _ (by omega), q_un _ _ (by omega)]; exact hmg) hg hk (by rw [q_un _ _ (by omega), q_un _ _ (by omega), ← hw.2.2.1]; exact hlo)
        rw [show (q_u (q_u I (6 * a + b + 16) 2 0) (2 * k + 89) 2 ((I (2 * k + 89) 2) + (20 * (I (2 * k + 89) 1)))) 75 k = I 75 k by rw [q_un _ _ (by omega), q_un _ _ (by omega)], show (q_u (q_u I (6 * a + b + 16) 2 0) (2 * k + 89) 2 ((I (2 * k + 89) 2) + (20 * (I (2 * k + 89) 1)))) 74 k = I 74 k by rw [q_un _ _ (by omega), q_un _ _ (by omega)]] at R
        refine ⟨_, sw, gc, _, J, _, J, Nat.le_refl _, x_clear (d := d + 11) ha hb hgc hg hk hlo, R, s_tp_c tp (fun i j hi => hu i j (by omega) (by omega) (by omega) (by omega)), s_bk_c bk (fun i j hi => hu i j (by omega) (by omega) (by omega) (by omega)), ?_, ?_, ?_, s_ac_c ac (fun i j hi => hu i j (by omega) (by omega) (by omega) (by omega)), s_sc_c sc (fun i j hi => hu i j (by omega) (by omega) (by omega) (by omega)), s_sz_c sz (fun i j hi => hu i j (by omega) (by omega) (by omega) (by omega)), s_sh_c sh (fun i j hi => hu i j (by omega) (by omega) (by omega) (by omega)) (fun _ _ _ => rfl)⟩
        · intro w hw2
          rw [hu (w + 16) 0 (by omega) (by omega) (by omega) (by omega), hu (w + 16) 1 (by omega) (by omega) (by omega) (by omega), hu (w + 16) 3 (by omega) (by omega) (by omega) (by omega), hu 70 w (by omega) (by omega) (by omega) (by omega), hu 71 w (by omega) (by omega) (by omega) (by omega), hu 73 w (by omega) (by omega) (by omega) (by omega)]
          refine ⟨(wl w hw2).1, (wl w hw2).2.1, ?_, (wl w hw2).2.2.2⟩
          by_cases e : w = 6 * a + b
          · subst e
            rw [q_un _ _ (by omega), q_un _ _ (by omega), q_un _ _ (by omega), q_us, q_un _ _ (by omega), q_us]
          · rw [hu (w + 16) 2 (by omega) (by omega) (by omega) (by omega), hu 72 w (by omega) (by omega) (by omega) (by omega)]
            exact (wl w hw2).2.2.1
        · refine s_gg_k (k := k) gg (fun i j hi => hu i j (by omega) (by omega) (by omega) (by omega)) (fun _ => ⟨?_, s_gm_c gm (fun i hi => hu i k (by omega) (by omega) (by omega) (by omega)), s_gk_c gk (fun i w hw => ⟨fun hi => hu i w (by omega) (by omega) (by omega) (by omega), fun hi => hu i _ (by omega) (by omega) (by omega) (by omega)⟩)⟩)
          unfold s_gs
          rw [hu (2 * k + 89) 1 (by omega) (by omega) (by omega) (by omega), hu (2 * k + 89) 3 (by omega) (by omega) (by omega) (by omega), hu (2 * k + 89) 4 (by omega) (by omega) (by omega) (by omega), hu (2 * k + 89) 5 (by omega) (by omega) (by omega) (by omega), hu (2 * k + 89) 6 (by omega) (by omega) (by omega) (by omega), hu (2 * k + 89) 7 (by omega) (by omega) (by omega) (by omega), hu 74 k (by omega) (by omega) (by omega) (by omega), hu 76 k (by omega) (by omega) (by omega) (by omega), hu 77 k (by omega) (by omega) (by omega) (by omega), hu 78 k (by omega) (by omega) (by omega) (by omega), hu 79 k (by omega) (by omega) (by omega) (by omega), hu 80 k (by omega) (by omega) (by omega) (by omega)]
          refine ⟨gs.1, ?_, gs.2.2⟩
          rw [q_us, q_un _ _ (by omega), q_un _ _ (by omega), q_us, gs.1, gs.2.1]
        · intro j h1 h2
          rw [hu 75 j (by omega) (by omega) (by omega) (by omega), hu 76 j (by omega) (by omega) (by omega) (by omega), hu 79 j (by omega) (by omega) (by omega) (by omega), hu 80 j (by omega) (by omega) (by omega) (by omega)]
          refine ⟨(un j h1 h2).1, (un j h1 h2).2.1, (un j h1 h2).2.2.1, (un j h1 h2).2.2.2.1, fun w hw => ?_⟩
          rw [hu 81 _ (by omega) (by omega) (by omega) (by omega)]
          exact (un j h1 h2).2.2.2.2 w hw
    · exact s_keep h (x_clearF (d := d + 11) hbad hgc hg hk) (r_clearF (d := d + 10) hbad)
  · rcases q_face g c with ⟨a, b, ha, hb, rfl, rfl⟩ | hbad
    · exact s_keep h (x_clearG (d := d + 11) ha hb hgc hg hx) (r_clearG (d := d + 10) ha hb hmg hg hx)
    · exact s_keep h (x_clearFG (d := d + 11) hbad hgc hg hx) (r_clearF (d := d + 10) hbad)
theorem s_told (x q : Int32) : s_Stp 77 123 [.int x, .int q] := by
  intro d sw gc I J h
  obtain ⟨hg, hgc, hmg, hgk⟩ := h.2.2.2.1
  rcases s_gi hg x with ⟨k, hk, rfl⟩ | hx
  · obtain ⟨gs, gm, gk⟩ := hgk k hk
    have X := x_told (d := d + 11) (sw := sw) (I := I) (J := J) hgc hg hk (q := q)
    unfold x_td at X
    by_cases h0 : q = 0
    · subst h0; rw [if_pos rfl] at X
      exact s_keep h X (GM_r (r_told0 (d := d + 10) hmg hg hk) gs.1.symm)
    · rw [if_neg h0] at X
      by_cases h1 : q = 1
      · subst h1; rw [if_pos rfl] at X
        exact s_keep h X (GM_r (r_told1 (d := d + 10) hmg hg hk) gs.2.1.symm)
      · rw [if_neg h1] at X
        by_cases h2 : q = 2
        · subst h2; rw [if_pos rfl] at X
          exact s_keep h X (GM_r (r_told2 (d := d + 10) hmg hg hk) gs.2.2.1.symm)
        · rw [if_neg h2] at X
          by_cases h3 : q = 3
          · subst h3; rw [if_pos rfl] at X
            exact s_keep h X (GM_r (r_told3 (d := d + 10) hmg hg hk) gs.2.2.2.1.symm)
          · rw [if_neg h3] at X
            by_cases h4 : q = 4
            · subst h4; rw [if_pos rfl] at X
              exact s_keep h X (GM_r (r_told4 (d := d + 10) hmg hg hk) gs.2.2.2.2.1.symm)
            · rw [if_neg h4] at X
              by_cases h5 : q = 5
              · subst h5; rw [if_pos rfl] at X
                exact s_keep h X (GM_r (r_told5 (d := d + 10) hmg hg hk) gs.2.2.2.2.2.1.symm)
              · rw [if_neg h5] at X
                exact s_keep h X (r_toldQ (d := d + 10) hmg hg hk (q_i3_out (n := 5) rfl (q_out6 h0 h1 h2 h3 h4 h5)))
  · exact s_keep h (x_toldG (d := d + 11) hgc hg hx) (r_toldG (d := d + 10) hmg hg hx)
