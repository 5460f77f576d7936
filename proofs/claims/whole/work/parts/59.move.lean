theorem s_bm {x : Int} (h1 : -2 ^ 63 ≤ x) (h2 : x < 2 ^ 63) : x.bmod (2 ^ 64) = x := Int.bmod_eq_of_le_mul_two (by omega) (by omega)
theorem s_fd {a b : Int64} {m : Nat} (hb : b = lN m) (h1 : 1 ≤ m) (h6 : m ≤ 6) : (0 ≤ lg_cmp (a - a / b * b) 0 → x_fd a b = a / b) ∧ (¬ 0 ≤ lg_cmp (a - a / b * b) 0 → x_fd a b = a / b - 1) := by
  have eB : b.toInt = m := by rw [hb]; exact lN_toInt (by omega)
  have hb1 : b ≠ -1 := by
    intro e
    rw [e] at eB
    have : (-1 : Int64).toInt = -1 := rfl
    omega
  have eq := Int64.toInt_div_of_ne_right a b hb1
  have lo := Int64.le_toInt a
  have hi := Int64.toInt_lt a
  have hr := Int.tmod_add_tdiv_mul a.toInt b.toInt
  have hlt := Int.tmod_lt_of_pos a.toInt (b := b.toInt) (by omega)
  have hsg : (0 ≤ a.toInt → 0 ≤ a.toInt.tmod b.toInt) ∧ (a.toInt < 0 → a.toInt.tmod b.toInt ≤ 0 ∧ -b.toInt < a.toInt.tmod b.toInt) := by
    refine ⟨fun h => Int.tmod_nonneg _ h, fun h => ?_⟩
    have h2 := Int.tmod_nonneg (a := -a.toInt) b.toInt (by omega)
    have h3 := Int.tmod_lt_of_pos (-a.toInt) (b := b.toInt) (by omega)
    rw [Int.neg_tmod] at h2 h3
    omega
  have em : (a / b * b).toInt = a.toInt.tdiv b.toInt * b.toInt := by
    rw [Int64.toInt_mul, eq]
    refine s_bm ?_ ?_
    · rcases Int.lt_or_le a.toInt 0 with h | h
      · have := hsg.2 h; omega
      · have := hsg.1 h; omega
    · rcases Int.lt_or_le a.toInt 0 with h | h
      · have := hsg.2 h; omega
      · have := hsg.1 h; omega
  have er : (a - a / b * b).toInt = a.toInt.tmod b.toInt := by
    rw [Int64.toInt_sub, em]
    rw [show a.toInt - a.toInt.tdiv b.toInt * b.toInt = a.toInt.tmod b.toInt by omega]
    refine s_bm ?_ ?_
    · rcases Int.lt_or_le a.toInt 0 with h | h
      · have := hsg.2 h; omega
      · have := hsg.1 h; omega
    · omega
  have ex : 0 ≤ lg_cmp (a ^^^ b) 0 ↔ 0 ≤ a.toInt := by
    rw [q_cmp_ge, Int64.le_iff_toInt_le, show (0 : Int64).toInt = 0 from rfl]
    have hm := BitVec.msb_eq_toInt (x := (a ^^^ b).toBitVec)
    rw [Int64.toBitVec_xor, BitVec.msb_xor, BitVec.msb_eq_toInt, BitVec.msb_eq_toInt] at hm
    have e1 : (a.toBitVec).toInt = a.toInt := rfl
    have e2 : (b.toBitVec).toInt = b.toInt := rfl
    have e3 : (a.toBitVec ^^^ b.toBitVec).toInt = (a ^^^ b).toInt := rfl
    rw [e1, e2, e3, decide_eq_false (show ¬ b.toInt < 0 by omega), Bool.xor_false] at hm
    have hm2 : a.toInt < 0 ↔ (a ^^^ b).toInt < 0 := by
      constructor
      · intro h
        rw [decide_eq_true h] at hm
        exact of_decide_eq_true hm.symm
      · intro h
        rw [decide_eq_true h] at hm
        exact of_decide_eq_true hm
    omega
  have ec : lg_cmp (a / b * b) a = 0 ↔ a.toInt.tmod b.toInt = 0 := by
    rw [q_cmp_eq, ← Int64.toInt_inj, em]
    omega
  have e0 : 0 ≤ lg_cmp (a - a / b * b) 0 ↔ 0 ≤ a.toInt.tmod b.toInt := by
    rw [q_cmp_ge, Int64.le_iff_toInt_le, er]
    rfl
  rw [e0]
  unfold x_fd
  constructor
  · intro h
    by_cases h2 : 0 ≤ a.toInt
    · rw [if_pos (ex.mpr h2)]
    · rw [if_neg (fun e => h2 (ex.mp e)), if_pos (ec.mpr (by have := hsg.2 (by omega); omega))]
  · intro h
    have h2 : ¬ 0 ≤ a.toInt := fun e => h (hsg.1 e)
    rw [if_neg (fun e => h2 (ex.mp e)), if_neg (fun e => h (by rw [ec.mp e]; decide))]
def s_mvX (I : Nat → Nat → Int32) (k j : Nat) (n s : Int32) : Nat → Nat → Int32 := q_u (q_u (q_u (q_u I (2 * k + 89) 2 (I 75 k - s)) (2 * k + 89) 1 (I 74 k - n)) (2 * j + 89) 2 (I 75 j + s)) (2 * j + 89) 1 (I 74 j + n)
def s_mvR (I : Nat → Nat → Int32) (k j : Nat) (n s : Int32) : Nat → Nat → Int32 := q_u (q_u (q_u (q_u (s_mvX I k j n s) 75 k (I 75 k - s)) 75 j (I 75 j + s)) 74 k (I 74 k - n)) 74 j (I 74 j + n)
theorem s_mvX_un {I : Nat → Nat → Int32} {k j : Nat} {n s : Int32} {a b : Nat} (h : ¬ (a = 2 * k + 89 ∧ (b = 1 ∨ b = 2)) ∧ ¬ (a = 2 * j + 89 ∧ (b = 1 ∨ b = 2))) : s_mvX I k j n s a b = I a b := by
  unfold s_mvX
  rw [q_un _ _ (by omega), q_un _ _ (by omega), q_un _ _ (by omega), q_un _ _ (by omega)]
theorem s_mvR_un {I : Nat → Nat → Int32} {k j : Nat} {n s : Int32} {a b : Nat} (h : ¬ (a = 2 * k + 89 ∧ (b = 1 ∨ b = 2)) ∧ ¬ (a = 2 * j + 89 ∧ (b = 1 ∨ b = 2)) ∧ ¬ ((a = 74 ∨ a = 75) ∧ (b = k ∨ b = j))) : s_mvR I k j n s a b = I a b := by
  unfold s_mvR
  rw [q_un _ _ (by omega), q_un _ _ (by omega), q_un _ _ (by omega), q_un _ _ (by omega), s_mvX_un (by omega)]
theorem s_mvR_at {I : Nat → Nat → Int32} {k j : Nat} {n s : Int32} (hkj : k ≠ j) : (s_mvR I k j n s (2 * k + 89) 1 = I 74 k - n ∧ s_mvR I k j n s (2 * k + 89) 2 = I 75 k - s ∧ s_mvR I k j n s 74 k = I 74 k - n ∧ s_mvR I k j n s 75 k = I 75 k - s) ∧ (s_mvR I k j n s (2 * j + 89) 1 = I 74 j + n ∧ s_mvR I k j n s (2 * j + 89) 2 = I 75 j + s ∧ s_mvR I k j n s 74 j = I 74 j + n ∧ s_mvR I k j n s 75 j = I 75 j + s) := by
  unfold s_mvR s_mvX
  refine ⟨⟨?_, ?_, ?_, ?_⟩, ?_, ?_, ?_, ?_⟩
  · rw [q_un _ _ (by omega), q_un _ _ (by omega), q_un _ _ (by omega), q_un _ _ (by omega), q_un _ _ (by omega), q_un _ _ (by omega), q_us]
  · rw [q_un _ _ (by omega), q_un _ _ (by omega), q_un _ _ (by omega), q_un _ _ (by omega), q_un _ _ (by omega), q_un _ _ (by omega), q_un _ _ (by omega), q_us]
  · rw [q_un _ _ (by omega), q_us]
  · rw [q_un _ _ (by omega), q_un _ _ (by omega), q_un _ _ (by omega), q_us]
  · rw [q_un _ _ (by omega), q_un _ _ (by omega), q_un _ _ (by omega), q_un _ _ (by omega), q_us]
  · rw [q_un _ _ (by omega), q_un _ _ (by omega), q_un _ _ (by omega), q_un _ _ (by omega), q_un _ _ (by omega), q_us]
  · rw [q_us]
  · rw [q_un _ _ (by omega), q_un _ _ (by omega), q_us]
theorem s_mv_Rel {sw : Bool} {gc k j : Nat} {I : Nat → Nat → Int32} {J : Nat → Nat → Int64} {n s : Int32} (h : s_Rel sw gc I J) (hk : k < gc) (hj : j < gc) (hkj : k ≠ j) {a b : Nat} (ea : I 74 k - n = nI a) (ha : 1 ≤ a ∧ a ≤ 6) (eb : I 74 j + n = nI b) (hb : 1 ≤ b ∧ b ≤ 6) : s_Rel sw gc (s_mvR I k j n s) J := by
  obtain ⟨tp, bk, wl, gg, un, ac, sc, sz, sh⟩ := h
  have hg := gg.1
  obtain ⟨⟨k1, k2, k3, k4⟩, j1, j2, j3, j4⟩ := s_mvR_at (I := I) (n := n) (s := s) hkj
  refine ⟨s_tp_c tp (fun i j hi => s_mvR_un (by omega)), s_bk_c bk (fun i j hi => s_mvR_un (by omega)), s_wl_c wl (fun i j hi => s_mvR_un (by omega)), ⟨hg, by rw [s_mvR_un (by omega)]; exact gg.2.1, by rw [s_mvR_un (by omega)]; exact gg.2.2.1, fun i hi => ?_⟩, ?_, s_ac_c ac (fun i j hi => s_mvR_un (by omega)), s_sc_c sc (fun i j hi => s_mvR_un (by omega)), s_sz_c sz (fun i j hi => s_mvR_un (by omega)), s_sh_c sh (fun i j hi => s_mvR_un (by omega)) (fun _ _ _ => rfl)⟩
  · obtain ⟨gs, gm, gk⟩ := gg.2.2.2 i hi
    by_cases e1 : i = k
    · subst e1
      refine ⟨?_, ?_, s_gk_c gk (fun a w hw => ⟨fun ha => s_mvR_un (by omega), fun ha => s_mvR_un (by omega)⟩)⟩
      · unfold s_gs
        rw [k1, k2, k3, k4, s_mvR_un (a := 2 * i + 89) (b := 3) (by omega), s_mvR_un (a := 2 * i + 89) (b := 4) (by omega), s_mvR_un (a := 2 * i + 89) (b := 5) (by omega), s_mvR_un (a := 2 * i + 89) (b := 6) (by omega), s_mvR_un (a := 2 * i + 89) (b := 7) (by omega), s_mvR_un (a := 76) (by omega), s_mvR_un (a := 77) (by omega), s_mvR_un (a := 78) (by omega), s_mvR_un (a := 79) (by omega), s_mvR_un (a := 80) (by omega)]
        exact ⟨rfl, rfl, gs.2.2⟩
      · unfold s_gm
        rw [k3, s_mvR_un (a := 77) (by omega)]
        exact ⟨⟨a, ha.1, ha.2, ea⟩, gm.2⟩
    · by_cases e2 : i = j
      · subst e2
        refine ⟨?_, ?_, s_gk_c gk (fun a w hw => ⟨fun ha => s_mvR_un (by omega), fun ha => s_mvR_un (by omega)⟩)⟩
        · unfold s_gs
          rw [j1, j2, j3, j4, s_mvR_un (a := 2 * i + 89) (b := 3) (by omega), s_mvR_un (a := 2 * i + 89) (b := 4) (by omega), s_mvR_un (a := 2 * i + 89) (b := 5) (by omega), s_mvR_un (a := 2 * i + 89) (b := 6) (by omega), s_mvR_un (a := 2 * i + 89) (b := 7) (by omega), s_mvR_un (a := 76) (by omega), s_mvR_un (a := 77) (by omega), s_mvR_un (a := 78) (by omega), s_mvR_un (a := 79) (by omega), s_mvR_un (a := 80) (by omega)]
          exact ⟨rfl, rfl, gs.2.2⟩
        · unfold s_gm
          rw [j3, s_mvR_un (a := 77) (by omega)]
          exact ⟨⟨b, hb.1, hb.2, eb⟩, gm.2⟩
      · exact ⟨s_gs_c gs (fun a b ha => s_mvR_un (by omega)), s_gm_c gm (fun a ha => s_mvR_un (by omega)), s_gk_c gk (fun a w hw => ⟨fun ha => s_mvR_un (by omega), fun ha => s_mvR_un (by omega)⟩)⟩
  · intro i h1 h2
    rw [s_mvR_un (a := 75) (by omega), s_mvR_un (a := 76) (by omega), s_mvR_un (a := 79) (by omega), s_mvR_un (a := 80) (by omega)]
    refine ⟨(un i h1 h2).1, (un i h1 h2).2.1, (un i h1 h2).2.2.1, (un i h1 h2).2.2.2.1, fun w hw => ?_⟩
    rw [s_mvR_un (by omega)]
    exact (un i h1 h2).2.2.2.2 w hw
theorem s_hw {I : Nat → Nat → Int32} {k : Nat} (h : s_gs I k) : q_b (x_hw I k) = 0 ↔ I 77 k = -4 := by
  unfold x_hw
  rw [h.2.2.2.1]
  constructor
  · intro e
    by_cases h1 : I 77 k = -4
    · exact h1
    · rw [decide_eq_false h1] at e; exact absurd e (by decide)
  · intro e
    rw [decide_eq_true e]; rfl
theorem s_move (x y n : Int32) : s_Stp 78 124 [.int x, .int y, .int n] := by
  intro d sw gc I J h
  obtain ⟨hg, hgc, hmg, hgk⟩ := h.2.2.2.1
  rcases s_gi hg x with ⟨k, hk, rfl⟩ | hx
  · rcases s_gi hg y with ⟨j, hj, rfl⟩ | hy
    · by_cases hkj : k = j
      · subst hkj
        exact s_keep h (x_moveE (d := d + 10) I k n hgc hg hk) (r_moveE (d := d + 10) hmg hg hk)
      · obtain ⟨gs, ⟨⟨mk, k1, k6, ek⟩, pk⟩, _⟩ := hgk k hk
        obtain ⟨gsj, ⟨⟨mj, j1, j6, ej⟩, pj⟩, _⟩ := hgk j hj
        have hm1 : ¬ I (2 * k + 89) 1 < 1 := by rw [gs.1, ek]; exact nI_nlt (b := 1) (by omega) (by omega)
        have hmz : ∀ (K : Nat → Nat → Int32), K 74 k = nI mk → ¬ Int32.toInt64 (K 74 k) = 0 := by
          intro K e0 e
          rw [e0, nI_l (by omega)] at e
          exact absurd ((lN_eq (b := 0) (by omega) (by decide)).mp e) (by omega)
        have hm : ¬ Int32.toInt64 (I (2 * k + 89) 1) = 0 := by rw [gs.1]; exact hmz I ek
        have X := x_move (d := d + 10) (sw := sw) (J := J) I k j n hgc hg hk hj hkj hm1 hm
        have K : f_x_move I k j n = f_r_move I k j n → fm_x_move I k j n = I → fm_r_move I k j n = I → ∃ (r : Int32) (sw2 : Bool) (gc2 : Nat) (I1 : Nat → Nat → Int32) (J1 : Nat → Nat → Int64) (I2 : Nat → Nat → Int32) (J2 : Nat → Nat → Int64), gc ≤ gc2 ∧ GM (d + 12) 78 [.ref 0, .int (nI k), .int (nI j), .int n] (qS sw gc I J) (some (.int r)) (qS sw2 gc2 I1 J1) ∧ GM (d + 12) 124 [.ref 62, .int (nI k), .int (nI j), .int n] (qS sw2 gc2 I1 J1) (some (.int r)) (qS sw2 gc2 I2 J2) ∧ s_Rel sw2 gc2 I2 J2 := by
          intro e1 e2 e3
          have R := r_move (d := d + 10) (sw := sw) (J := J) I k j n hmg hg hk hj hkj (hmz I ek)
          rw [e2] at X
          rw [← e1, e3] at R
          exact s_keep h X R
        by_cases h1 : n < 1
        · refine K ?_ ?_ ?_
          · rw [f_x_move, if_pos h1, f_r_move, if_pos (f_i3_0 (Or.inl h1))]
          · rw [fm_x_move, if_pos h1]
          · rw [fm_r_move, if_pos (f_i3_0 (Or.inl h1))]
        · by_cases h2 : I (2 * k + 89) 1 ≤ n
          · have h3 : f_i3 n 1 (I 74 k - 1) = 0 := by
              refine f_i3_0 (Or.inr ?_)
              rw [gs.1, ek, q_le_int, nI_toInt (by omega)] at h2
              rw [ek, show nI mk - 1 = nI (mk - 1) from q_subP rfl rfl (by omega), q_lt_int, nI_toInt (by omega)]
              omega
            refine K ?_ ?_ ?_
            · rw [f_x_move, if_neg h1, if_pos h2, f_r_move, if_pos h3]
            · rw [fm_x_move, if_neg h1, if_pos h2]
            · rw [fm_r_move, if_pos h3]
          · rcases q_ix n (n := mk) (by omega) with ⟨nn, hnn, rfl⟩ | hbad
            · have hn1 : 1 ≤ nn := by
                rcases Nat.eq_zero_or_pos nn with e | e
                · subst e; exact absurd (by decide) h1
                · exact e
              have h3 : ¬ f_i3 (nI nn) 1 (I 74 k - 1) = 0 := by
                rw [ek, show nI mk - 1 = nI (mk - 1) from q_subP rfl rfl (by omega), show f_i3 (nI nn) 1 (nI (mk - 1)) = 1 from f_i3_1 (nI_nlt (b := 1) hn1 (by omega)) (nI_nlt (by omega) (by omega))]
                decide
              have e6 : (6 : Int32) - I (2 * j + 89) 1 = nI (6 - mj) := by rw [gsj.1, ej]; exact q_subP (a := 6) rfl rfl j6
              have e7 : I 74 j + nI nn = nI (mj + nn) := by rw [ej]; exact q_addP rfl rfl
              by_cases h4 : mj + nn ≤ 6
              · have h5 : nI nn ≤ 6 - I (2 * j + 89) 1 := by rw [e6]; exact nI_le (by omega) (by omega)
                have h6 : I 74 j + nI nn ≤ 6 := by rw [e7]; exact nI_le (b := 6) h4 (by decide)
                by_cases h7 : I 77 k = -4
                · by_cases h8 : I 77 j = -4
                  · have ek2 : I 74 k - nI nn = nI (mk - nn) := by rw [ek]; exact q_subP rfl rfl (by omega)
                    have hX : fm_x_move I k j (nI nn) = s_mvX I k j (nI nn) (x_sh I k (nI nn)) := by
                      rw [fm_x_move, if_neg h1, if_neg h2, if_pos h5, if_pos ((s_hw gs).mpr h7), if_pos ((s_hw gsj).mpr h8)]
                      unfold s_mvX
                      rw [q_un _ _ (by omega), q_un _ _ (by omega), q_un _ _ (by omega), gs.1, gs.2.1, gsj.1, gsj.2.1]
                    have hxr : f_x_move I k j (nI nn) = x_sh I k (nI nn) := by
                      rw [f_x_move, if_neg h1, if_neg h2, if_pos h5, if_pos ((s_hw gs).mpr h7), if_pos ((s_hw gsj).mpr h8)]
                    rw [hX, hxr] at X
                    have un := fun a b h => s_mvX_un (I := I) (k := k) (j := j) (n := nI nn) (s := x_sh I k (nI nn)) (a := a) (b := b) h
                    have R := r_move (d := d + 10) (sw := sw) (J := J) (s_mvX I k j (nI nn) (x_sh I k (nI nn))) k j (nI nn) ((un 62 20 (by omega)).trans hmg) hg hk hj hkj (hmz _ ((un 74 k (by omega)).trans ek))
                    have esh : x_sh I k (nI nn) = Int64.toInt32 (x_fd (Int32.toInt64 (nI nn) * Int32.toInt64 (I 75 k)) (Int32.toInt64 (I 74 k))) := by
                      unfold x_sh
                      rw [gs.1, gs.2.1, Int64.mul_comm]
                    obtain ⟨F1, F2⟩ := s_fd (a := Int32.toInt64 (nI nn) * Int32.toInt64 (I 75 k)) (b := Int32.toInt64 (I 74 k)) (m := mk) (by rw [ek]; exact nI_l (by omega)) k1 k6
                    have eR : f_r_move (s_mvX I k j (nI nn) (x_sh I k (nI nn))) k j (nI nn) = x_sh I k (nI nn) ∧ fm_r_move (s_mvX I k j (nI nn) (x_sh I k (nI nn))) k j (nI nn) = s_mvR I k j (nI nn) (x_sh I k (nI nn)) := by
                      unfold f_r_move fm_r_move
                      rw [un 74 k (by omega), un 74 j (by omega), un 77 k (by omega), un 77 j (by omega), un 75 k (by omega), if_neg h3, if_pos h6, if_pos h7, if_pos h8, if_neg h3, if_pos h6, if_pos h7, if_pos h8]
                      by_cases h9 : 0 ≤ lg_cmp (Int32.toInt64 (nI nn) * Int32.toInt64 (I 75 k) - Int32.toInt64 (nI nn) * Int32.toInt64 (I 75 k) / Int32.toInt64 (I 74 k) * Int32.toInt64 (I 74 k)) 0
                      · rw [if_pos h9, if_pos h9, ← F1 h9, ← esh]
                        refine ⟨rfl, ?_⟩
                        unfold s_mvR
                        rw [q_un _ _ (show ¬ (75 = 75 ∧ j = k) by omega), un 75 j (by omega), q_un _ _ (show ¬ (74 = 74 ∧ j = k) by omega), q_un _ _ (by omega), q_un _ _ (by omega), un 74 j (by omega)]
                      · rw [if_neg h9, if_neg h9, ← F2 h9, ← esh]
                        refine ⟨rfl, ?_⟩
                        unfold s_mvR
                        rw [q_un _ _ (show ¬ (75 = 75 ∧ j = k) by omega), un 75 j (by omega), q_un _ _ (show ¬ (74 = 74 ∧ j = k) by omega), q_un _ _ (by omega), q_un _ _ (by omega), un 74 j (by omega)]
                    rw [eR.1, eR.2] at R
                    exact ⟨_, sw, gc, _, J, _, J, Nat.le_refl _, X, R, s_mv_Rel h hk hj hkj ek2 ⟨by omega, by omega⟩ e7 ⟨by omega, by omega⟩⟩
                  · have h8' : ¬ q_b (x_hw I j) = 0 := fun e => h8 ((s_hw gsj).mp e)
                    refine K ?_ ?_ ?_
                    · rw [f_x_move, if_neg h1, if_neg h2, if_pos h5, if_pos ((s_hw gs).mpr h7), if_neg h8', f_r_move, if_neg h3, if_pos h6, if_pos h7, if_neg h8]
                    · rw [fm_x_move, if_neg h1, if_neg h2, if_pos h5, if_pos ((s_hw gs).mpr h7), if_neg h8']
                    · rw [fm_r_move, if_neg h3, if_pos h6, if_pos h7, if_neg h8]
                · have h7' : ¬ q_b (x_hw I k) = 0 := fun e => h7 ((s_hw gs).mp e)
                  refine K ?_ ?_ ?_
                  · rw [f_x_move, if_neg h1, if_neg h2, if_pos h5, if_neg h7', f_r_move, if_neg h3, if_pos h6, if_neg h7]
                  · rw [fm_x_move, if_neg h1, if_neg h2, if_pos h5, if_neg h7']
                  · rw [fm_r_move, if_neg h3, if_pos h6, if_neg h7]
              · have h5 : ¬ nI nn ≤ 6 - I (2 * j + 89) 1 := by rw [e6]; exact nI_ge (by omega) (by omega)
                have h6 : ¬ I 74 j + nI nn ≤ 6 := by rw [e7]; exact nI_ge (a := 6) (by omega) (by omega)
                refine K ?_ ?_ ?_
                · rw [f_x_move, if_neg h1, if_neg h2, if_neg h5, f_r_move, if_neg h3, if_neg h6]
                · rw [fm_x_move, if_neg h1, if_neg h2, if_neg h5]
                · rw [fm_r_move, if_neg h3, if_neg h6]
            · exfalso
              rcases hbad with h3 | h3
              · rw [q_lt_int, show (1 : Int32).toInt = 1 from rfl] at h1
                rw [q_lt_int, show (0 : Int32).toInt = 0 from rfl] at h3
                omega
              · rw [gs.1, ek] at h2; exact h2 h3
    · exact s_keep h (x_moveY (d := d + 10) hgc hg hy hk) (r_moveY (d := d + 10) hmg hg hy hk)
  · rcases s_gi hg y with ⟨j, hj, rfl⟩ | hy
    · exact s_keep h (x_moveX (d := d + 10) hgc hg hx hj) (r_moveX (d := d + 10) hmg hg hx)
    · exact s_keep h (x_moveB (d := d + 10) hgc hg hx hy) (r_moveX (d := d + 10) hmg hg hx)
