/-! ===== haul ===== -/
theorem s_z {f : Int32} {i : Nat} (hi : i ≤ 20) : (Int32.toInt64 f + Int32.toInt64 (3 * nI i)).toInt = f.toInt + 3 * i ∧ ((Int32.toInt64 f + Int32.toInt64 (3 * nI i)) + 3).toInt = f.toInt + 3 * i + 3 := by
  have e : (3 : Int32) * nI i = nI (3 * i) := q_mulP (a := 3) rfl rfl
  have h1 := Int32.toInt_lt f
  have h2 := Int32.le_toInt f
  have e1 : (Int32.toInt64 f + Int32.toInt64 (3 * nI i)).toInt = f.toInt + 3 * i := by
    rw [Int64.toInt_add, Int32.toInt_toInt64, Int32.toInt_toInt64, e, nI_toInt (by omega), s_bm (by omega) (by omega)]
    omega
  refine ⟨e1, ?_⟩
  rw [Int64.toInt_add, e1, show (3 : Int64).toInt = 3 from rfl]
  exact s_bm (by omega) (by omega)
theorem s_zc {f : Int32} {i n : Nat} (hi : i ≤ 20) (hn : n ≤ 60) : ((Int32.toInt64 f + Int32.toInt64 (3 * nI i)) < 0 ∨ lN n ≤ Int32.toInt64 f + Int32.toInt64 (3 * nI i)) ∨ (∃ j, j < n ∧ Int32.toInt64 f + Int32.toInt64 (3 * nI i) = lN j) := by
  obtain ⟨e1, _⟩ := s_z (f := f) hi
  by_cases h1 : (Int32.toInt64 f + Int32.toInt64 (3 * nI i)).toInt < 0
  · left; left
    rw [Int64.lt_iff_toInt_lt]; exact h1
  · by_cases h2 : (n : Int) ≤ (Int32.toInt64 f + Int32.toInt64 (3 * nI i)).toInt
    · left; right
      rw [Int64.le_iff_toInt_le, lN_toInt (by omega)]; exact h2
    · right
      refine ⟨(Int32.toInt64 f + Int32.toInt64 (3 * nI i)).toInt.toNat, by omega, ?_⟩
      rw [← Int64.toInt_inj, lN_toInt (by omega)]
      omega
theorem s_zI {f : Int32} {i n : Nat} (hi : i ≤ 20) (hn : n ≤ 60) (h : (Int32.toInt64 f + Int32.toInt64 (3 * nI i)) < 0 ∨ lN n ≤ Int32.toInt64 f + Int32.toInt64 (3 * nI i)) : (Int32.toInt64 f + Int32.toInt64 (3 * nI i)) < 0 ∨ lN n < (Int32.toInt64 f + Int32.toInt64 (3 * nI i)) + 3 := by
  obtain ⟨e1, e2⟩ := s_z (f := f) hi
  rcases h with h | h
  · exact Or.inl h
  · right
    rw [Int64.le_iff_toInt_le, lN_toInt (by omega)] at h
    rw [Int64.lt_iff_toInt_lt, lN_toInt (by omega)]
    omega
theorem s_zJ {f : Int32} {i n j : Nat} (hi : i ≤ 20) (hn : n ≤ 60) (hj : j < n) (h : Int32.toInt64 f + Int32.toInt64 (3 * nI i) = lN j) (h3 : n ≤ j + 2) : lN n < (Int32.toInt64 f + Int32.toInt64 (3 * nI i)) + 3 := by
  obtain ⟨e1, e2⟩ := s_z (f := f) hi
  rw [h, lN_toInt (by omega)] at e1
  rw [Int64.lt_iff_toInt_lt, lN_toInt (by omega)]
  omega
theorem s_gin {gc : Nat} (hg : gc ≤ 8) (v : Int64) : (∃ k, k < gc ∧ v = lN k ∧ f_in (lN k) 0 (Int32.toInt64 (nI gc) - 1) = 1) ∨ ((v < 0 ∨ lN gc ≤ v) ∧ f_in v 0 (Int32.toInt64 (nI gc) - 1) = 0) := by
  have e1 : (Int32.toInt64 (nI gc) - 1).toInt = (gc : Int) - 1 := by
    rw [Int64.toInt_sub, Int32.toInt_toInt64, nI_toInt (by omega), show (1 : Int64).toInt = 1 from rfl]
    exact s_bm (by omega) (by omega)
  have ein : ∀ v : Int64, f_in v 0 (Int32.toInt64 (nI gc) - 1) = if v.toInt < 0 then 0 else if (gc : Int) - 1 < v.toInt then 0 else 1 := by
    intro v
    unfold f_in
    have c1 : lg_cmp v 0 < 0 ↔ v.toInt < 0 := by rw [q_cmp_lt, Int64.lt_iff_toInt_lt]; rfl
    have c2 : 0 < lg_cmp v (Int32.toInt64 (nI gc) - 1) ↔ (gc : Int) - 1 < v.toInt := by rw [q_cmp_gt, Int64.lt_iff_toInt_lt, e1]
    by_cases h1 : v.toInt < 0
    · rw [if_pos (c1.mpr h1), if_pos h1]
    · rw [if_neg (fun h => h1 (c1.mp h)), if_neg h1]
      by_cases h2 : (gc : Int) - 1 < v.toInt
      · rw [if_pos (c2.mpr h2), if_pos h2]
      · rw [if_neg (fun h => h2 (c2.mp h)), if_neg h2]
  by_cases h1 : v.toInt < 0
  · exact Or.inr ⟨Or.inl (by rw [Int64.lt_iff_toInt_lt]; exact h1), by rw [ein, if_pos h1]⟩
  · by_cases h2 : (gc : Int) - 1 < v.toInt
    · refine Or.inr ⟨Or.inr (by rw [Int64.le_iff_toInt_le, lN_toInt (by omega)]; omega), by rw [ein, if_neg h1, if_pos h2]⟩
    · left
      refine ⟨v.toInt.toNat, by omega, ?_, ?_⟩
      · rw [← Int64.toInt_inj, lN_toInt (by omega)]; omega
      · rw [ein, lN_toInt (by omega), if_neg (by omega), if_neg (by omega)]
theorem s_hl_ind {d : Nat} {sw : Bool} {gc : Nat} {J : Nat → Nat → Int64} {s m : Nat} {u f : Int32} (hs : s < 4) (hm : m ≤ 20) : ∀ (n i : Nat) (A B : Nat → Nat → Int32), i + n = m → s_Rel sw gc (s_mx A B) J → ∃ (r : Int32) (A2 B2 : Nat → Nat → Int32), G (d + 12) 89 (59, [some (.ref 0), some (.int (nI s)), some (.int u), some (.int f), some (.int (nI m)), some (.ref (2 * s + 54)), some (.int (nI i)), none], [], qS sw gc A J) (some (.int r)) (qS sw gc A2 J) ∧ (∀ Z, G (d + 12) 143 (55, [some (.ref 62), some (.int (nI s)), some (.int u), some (.int f), some (.int (nI m)), some (.int (nI i)), none, none, none, none, none], [], qS sw gc (s_mx Z B) J) (some (.int r)) (qS sw gc (s_mx Z B2) J)) ∧ s_Rel sw gc (s_mx A2 B2) J ∧ s_eqm A2 A := by
  intro n
  induction n with
  | zero =>
    intro i A B hi h
    exact ⟨_, A, B, x_haulE (d := d + 6) hs hm (by omega), fun Z => r_haulE (d := d + 8) hs hm (by omega), h, fun _ _ _ => rfl⟩
  | succ n ih =>
    intro i A B hi h
    have him : i < m := by omega
    obtain ⟨hg, hgc, hmg, hgk⟩ := h.2.2.2.1
    rw [s_mx_c (by omega)] at hgc
    rw [s_mx_m (by omega)] at hmg
    obtain ⟨s1, s2, ⟨nn, n60, en⟩, s4⟩ := h.2.2.2.2.2.2.2.2 s hs
    rw [s_mx_c (by omega), en] at s2
    rw [s_mx_m (by omega)] at en
    have zm : ∀ (Z : Nat → Nat → Int32) (i j : Nat), 62 ≤ i ∧ i ≤ 88 → s_mx Z B i j = B i j := fun Z i j h => s_mx_m h
    have STOP : ∀ (r : Int32), ¬ r = 0 → GM (d + 11) 97 [.ref 0, .ref (2 * s + 54), .long (Int32.toInt64 f + Int32.toInt64 (3 * nI i))] (qS sw gc A J) (some (.int r)) (qS sw gc A J) → (∀ Z, G (d + 12) 143 (55, [some (.ref 62), some (.int (nI s)), some (.int u), some (.int f), some (.int (nI m)), some (.int (nI i)), none, none, none, none, none], [], qS sw gc (s_mx Z B) J) (some (.int r)) (qS sw gc (s_mx Z B) J)) → ∃ (r : Int32) (A2 B2 : Nat → Nat → Int32), G (d + 12) 89 (59, [some (.ref 0), some (.int (nI s)), some (.int u), some (.int f), some (.int (nI m)), some (.ref (2 * s + 54)), some (.int (nI i)), none], [], qS sw gc A J) (some (.int r)) (qS sw gc A2 J) ∧ (∀ Z, G (d + 12) 143 (55, [some (.ref 62), some (.int (nI s)), some (.int u), some (.int f), some (.int (nI m)), some (.int (nI i)), none, none, none, none, none], [], qS sw gc (s_mx Z B) J) (some (.int r)) (qS sw gc (s_mx Z B2) J)) ∧ s_Rel sw gc (s_mx A2 B2) J ∧ s_eqm A2 A := fun r hr g1 g2 => ⟨r, A, B, x_haulR (d := d + 6) hs hm him hr g1, g2, h, fun _ _ _ => rfl⟩
    rcases s_zc (f := f) (i := i) (n := nn) (by omega) n60 with hz | ⟨j, hj, hz⟩
    · exact STOP (-12) (by decide) (x_hbI1 (d := d + 10) hs s2 n60 hz) (fun Z => r_haulI (d := d + 8) hs hm him ((zm Z 87 s (by omega)).trans en) n60 (s_zI (by omega) n60 hz))
    · by_cases h3 : j + 3 ≤ nn
      · have c0 := s4 j (by omega)
        have c1 := s4 (j + 1) (by omega)
        have c2 := s4 (j + 2) (by omega)
        have e1 : 60 * s + (j + 1) = 60 * s + j + 1 := by omega
        have e2 : 60 * s + (j + 2) = 60 * s + j + 2 := by omega
        rw [e1] at c1
        rw [e2] at c2
        have hin62 : ∀ Z, Int32.toInt64 (s_mx Z B 62 20) - 1 = Int32.toInt64 (nI gc) - 1 := fun Z => by rw [zm Z 62 20 (by omega), hmg]
        rcases s_gin hg (J 88 (60 * s + j)) with ⟨k, hk, ek, fin⟩ | ⟨hbad, fin⟩
        · rcases s_block01 (J 88 (60 * s + j + 1)) (J 88 (60 * s + j + 2)) with hb | hb
          · obtain ⟨len, l1, l2, el⟩ := s_block1 hb
            have hbl : f_isBlock (lN len) (J 88 (60 * s + j + 2)) = 1 := el ▸ hb
            have hbr : f_r_isBlock (lN len) (J 88 (60 * s + j + 2)) = 1 := s_block _ _ ▸ hbl
            have hbr2 : f_r_isBlock (J 88 (60 * s + j + 1)) (J 88 (60 * s + j + 2)) = 1 := s_block _ _ ▸ hb
            obtain ⟨gs, gm, gk⟩ := hgk k hk
            have g4 := gs.2.2.2.1
            rw [s_mx_c (by omega)] at g4
            have wl := h.2.2.1
            rcases gm.2 with h4 | ⟨w, hw, h4⟩
            · rw [h4] at g4
              rw [s_mx_m (by omega)] at h4
              refine STOP (-22) (by decide) ?_ (fun Z => r_haulW0 (d := d + 8) hs hm him ((zm Z 87 s (by omega)).trans en) n60 hz h3 ((zm Z 62 20 (by omega)).trans hmg) hg hk ek (by rw [hin62 Z]; exact fin) hbr2 ((zm Z 77 k (by omega)).trans h4))
              rw [hz]
              exact x_hbN (d := d + 8) hs s2 n60 (by omega) (c0.trans ek) (c1.trans el) c2 hgc hg hk hbl g4
            · rw [h4] at g4
              rw [s_mx_m (by omega)] at h4
              have hmy : x_may A w = r_may B w := s_mayN2 (fun w hw => by
                have := (wl w hw).2.2.1
                rw [s_mx_c (by omega), s_mx_m (by omega)] at this
                exact this) 6 w
              have hmz : ∀ Z, r_may (s_mx Z B) w = r_may B w := fun Z => r_mayN_c (fun w => zm Z 72 w (by omega)) 6 w
              cases hmay : r_may B w with
              | false =>
                refine STOP (-22) (by decide) ?_ (fun Z => r_haulW1 (d := d + 8) hs hm him ((zm Z 87 s (by omega)).trans en) n60 hz h3 ((zm Z 62 20 (by omega)).trans hmg) hg hk ek (by rw [hin62 Z]; exact fin) hbr2 hw ((zm Z 77 k (by omega)).trans h4) ((hmz Z).trans hmay))
                rw [hz]
                exact x_hbM (d := d + 8) hs s2 n60 (by omega) (c0.trans ek) (c1.trans el) c2 hgc hg hk hbl hw g4 (hmy.trans hmay)
              | true =>
                obtain ⟨q, L, P, z1, z2, z3, z4⟩ := h.2.2.2.2.2.2.2.1
                obtain ⟨c, c4, p1, p2, p3⟩ := s_pnd h.2.1
                have z1A : x_Sz A q L := x_Sz_c z1 (fun i j hi => (s_mx_c (by omega)).symm)
                have p2A : x_pds sw A = nI c := by
                  rw [← p2]
                  exact x_pds_eqv (s_mx_c (by omega)).symm (s_mx_c (by omega)).symm
                have X := x_hbO (d := d + 6) (sw := sw) (J := J) hs s2 n60 (j := j) (by omega) (c0.trans ek) (c1.trans el) c2 hgc hg hk hbl z1A l2 l1 hw g4 p2A c4 (hmy.trans hmay)
                obtain ⟨_, hR⟩ := s_wk (F := J 88 (60 * s + j + 2)) (len := len) h z1 z2 z3 z4 hk hw ((s_mx_m (by omega)).trans h4) l2 p3
                rw [s_mx_both hw] at hR
                obtain ⟨r, A2, B2, g1, g2, hR2, he⟩ := ih (i + 1) _ _ (by omega) hR
                refine ⟨r, A2, B2, x_haulS (d := d + 6) hs hm him (hz ▸ X) g1, fun Z => ?_, hR2, fun i j hi => (he i j hi).trans (x_wb_62 hw hi.1 hi.2)⟩
                have hp1 : B 62 9 = nI c := by rw [← p1]; exact (s_mx_m (by omega)).symm
                refine r_haulS (d := d + 8) hs hm him ((zm Z 87 s (by omega)).trans en) n60 hz h3 ((zm Z 62 20 (by omega)).trans hmg) hg hk ek (by rw [hin62 Z]; exact fin) el hbr hw ((zm Z 77 k (by omega)).trans h4) ((hmz Z).trans hmay) (r_Sz_c z2 (fun i j hi => (zm Z i j (by omega)).trans (s_mx_m (by omega)).symm)) l2 l1 ((zm Z 62 9 (by omega)).trans hp1) c4 ?_
                rw [s_mx_wks]
                exact g2 Z
          · refine STOP (-21) (by decide) ?_ (fun Z => r_haulB2 (d := d + 8) hs hm him ((zm Z 87 s (by omega)).trans en) n60 hz h3 ((zm Z 62 20 (by omega)).trans hmg) hg (by rw [hin62 Z, ek]; exact fin) (s_block _ _ ▸ hb))
            rw [hz]
            exact x_hbB (d := d + 9) hs s2 n60 (by omega) (c0.trans ek) c1 c2 hgc hg hk hb
        · refine STOP (-21) (by decide) ?_ (fun Z => r_haulB1 (d := d + 8) hs hm him ((zm Z 87 s (by omega)).trans en) n60 hz h3 ((zm Z 62 20 (by omega)).trans hmg) hg (by rw [hin62 Z]; exact fin))
          rw [hz]
          exact x_hbG (d := d + 9) hs s2 n60 (by omega) c0 c1 c2 hgc hg hbad
      · refine STOP (-12) (by decide) ?_ (fun Z => r_haulI (d := d + 8) hs hm him ((zm Z 87 s (by omega)).trans en) n60 (Or.inr (s_zJ (by omega) n60 hj hz (by omega))))
        rw [hz]
        exact x_hbI2 (d := d + 10) hs s2 n60 hj (by omega)
theorem s_haul (x u f m : Int32) : s_Stp 89 143 [.int x, .int u, .int f, .int m] := by
  intro d sw gc I J h
  rcases q_ix x (n := 4) (by decide) with ⟨s, hs, rfl⟩ | hx
  · rcases s_lane01 u with hu | hu
    · rcases q_ix m (n := 21) (by decide) with ⟨m, hm, rfl⟩ | hmb
      · obtain ⟨s1, s2, _, _⟩ := h.2.2.2.2.2.2.2.2 s hs
        by_cases hla : I 86 s = u
        · have hne : ¬ u = -4 := by
            obtain ⟨z, _, _, rfl⟩ := s_rng (a := 0) (b := 2) (lo := 0) (hi := 2) rfl rfl (show f_i3 u 0 2 = 1 from hu) (by decide)
            exact q_neN (by decide) (by omega)
          have hnt : x_nth I s = false := by unfold x_nth; rw [s1, hla]; exact decide_eq_false hne
          obtain ⟨r, A2, B2, g1, g2, hR, he⟩ := s_hl_ind (d := d) (sw := sw) (gc := gc) (J := J) (u := u) (f := f) hs (show m ≤ 20 by omega) m 0 I I (by omega) (by rw [s_mx_id]; exact h)
          have e : s_mx A2 I = A2 := by
            funext i j
            unfold s_mx
            by_cases hi : 62 ≤ i ∧ i ≤ 88
            · rw [if_pos hi]; exact (he i j hi).symm
            · rw [if_neg hi]
          have g3 := g2 A2
          rw [e] at g3
          have e86 : A2 86 s = u := (he 86 s (by omega)).trans hla
          exact ⟨r, sw, gc, A2, J, _, J, Nat.le_refl _, x_haulG (d := d + 6) hs hu (by omega) hnt (s1.trans hla) g1, r_haulG (d := d + 8) hs hu (by omega) e86 g3, hR⟩
        · by_cases h4 : I 86 s = -4
          · have hnt : x_nth I s = true := by unfold x_nth; rw [s1]; exact decide_eq_true h4
            exact s_keep h (x_haulN (d := d + 6) hs hu (by omega) hnt) (r_haulN (d := d + 10) hs hu (by omega) hla h4)
          · have hnt : x_nth I s = false := by unfold x_nth; rw [s1]; exact decide_eq_false h4
            exact s_keep h (x_haulC (d := d + 6) hs hu (by omega) hnt (by rw [s1]; exact hla)) (r_haulC (d := d + 10) hs hu (by omega) hla h4)
      · have h20 : m < 0 ∨ 20 < m := by
          rcases hmb with h1 | h1
          · exact Or.inl h1
          · right
            rw [q_le_int, show (nI 21).toInt = 21 from rfl] at h1
            rw [q_lt_int, show (20 : Int32).toInt = 20 from rfl]; omega
        refine s_keep h (x_haulM (d := d + 6) hs hu ?_) (r_haulM (d := d + 10) hs hu (f_i3_0 h20))
        rcases h20 with h1 | h1
        · exact Or.inl h1
        · exact Or.inr (Int32.not_le.mpr h1)
    · exact s_keep h (x_haulL (d := d + 6) hs hu) (r_haulL (d := d + 10) hs hu)
  · exact s_keep h (x_haulK (d := d + 6) hx) (r_haulK (d := d + 10) hx)
