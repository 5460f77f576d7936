theorem q_255 {w i : Nat} (h : 8 ≤ w) : (255#w).getLsbD i = decide (i < 8) := by
  rw [BitVec.getLsbD_ofNat, show (255 : Nat) = 2 ^ 8 - 1 from rfl, Nat.testBit_two_pow_sub_one]
  by_cases h1 : i < 8
  · rw [decide_eq_true h1, decide_eq_true (show i < w by omega)]; rfl
  · rw [decide_eq_false h1, Bool.and_false]
theorem q_byteB (x : BitVec 64) (n : Nat) (hn : n ≤ 56) : ((((x >>> n).signExtend 32).signExtend 8).signExtend 32) &&& 255#32 = ((x.sshiftRight n) &&& 255#64).signExtend 32 := by
  apply BitVec.eq_of_getLsbD_eq
  intro i hi
  rw [BitVec.getLsbD_and, q_255 (by decide), BitVec.getLsbD_signExtend, BitVec.getLsbD_signExtend, BitVec.getLsbD_signExtend, BitVec.getLsbD_signExtend, BitVec.getLsbD_and, q_255 (by decide), BitVec.getLsbD_ushiftRight, BitVec.getLsbD_sshiftRight]
  by_cases h1 : i < 8
  · rw [decide_eq_true h1, decide_eq_true hi, if_pos h1, if_pos hi, if_pos (show i < 64 by omega), if_pos (show i < 64 by omega), if_pos (show n + i < 64 by omega), decide_eq_false (show ¬ 64 ≤ i by omega)]
    cases x.getLsbD (n + i) <;> rfl
  · rw [decide_eq_false h1, Bool.and_false, if_pos (show i < 64 by omega), Bool.and_false, Bool.and_false]
theorem q_byteS_all : (List.range 8).all (fun m => decide ((((Int32.toInt64 (nI (8 * m))).toUInt64 &&& Int64.toUInt64 63).toBitVec % 64).toNat = 8 * m ∧ ((Int32.toInt64 (nI (8 * m)) &&& 63).toBitVec.smod 64).toNat = 8 * m)) = true := by decide +kernel
theorem q_byte {v : Int64} {m : Nat} (hm : m < 8) : x_by v (nI (8 * m)) &&& 255 = r_by v (nI (8 * m)) := by
  have h := of_decide_eq_true (List.all_eq_true.mp q_byteS_all m (List.mem_range.mpr hm))
  unfold x_by r_by
  rw [pk_vb]
  rw [← Int32.toBitVec_inj, Int32.toBitVec_and, Int8.toBitVec_toInt32, Int32.toBitVec_toInt8, Int64.toBitVec_toInt32, Int64.toBitVec_toInt32, Int64.toBitVec_and, Int64.toBitVec_shiftRight, BitVec.sshiftRight_eq', h.2]
  show ((((v.toBitVec >>> (((Int32.toInt64 (nI (8 * m))).toUInt64 &&& Int64.toUInt64 63).toBitVec % 64)).signExtend 32).signExtend 8).signExtend 32) &&& 255#32 = _
  rw [BitVec.ushiftRight_eq', h.1]
  exact q_byteB _ _ (by omega)
theorem x_ap_un {v : Int64} {l : Nat} : ∀ (m j : Nat) (I : Nat → Nat → Int32) (i k : Nat), ¬ (i = 3 ∧ l + j ≤ k ∧ k < l + j + m) → ¬ (i = 2 ∧ k = 1) → x_ap v l m j I i k = I i k
  | 0, _, _, _, _, _, _ => rfl
  | m + 1, j, I, i, k, h1, h2 => by
    unfold x_ap
    rw [x_ap_un m (j + 1) _ i k (by omega) h2, q_un _ _ h2, q_un _ _ (by omega)]
theorem x_ap_len {v : Int64} {l : Nat} : ∀ (m j : Nat) (I : Nat → Nat → Int32), I 2 1 = nI (l + j) → x_ap v l m j I 2 1 = nI (l + j + m)
  | 0, _, _, h => h
  | m + 1, j, I, h => by
    unfold x_ap
    rw [x_ap_len m (j + 1) _ (show q_u (q_u I 3 (l + j) (x_by v (nI (8 * m)))) 2 1 (nI (l + j + 1)) 2 1 = nI (l + (j + 1)) from q_us _ _ _ _)]
    congr 1; omega
theorem x_ap_by {v : Int64} {l : Nat} : ∀ (m j : Nat) (I : Nat → Nat → Int32) (q : Nat), q < m → x_ap v l m j I 3 (l + j + q) = x_by v (nI (8 * (m - 1 - q)))
  | 0, _, _, _, h => absurd h (Nat.not_lt_zero _)
  | m + 1, j, I, q, h => by
    unfold x_ap
    cases q with
    | zero => rw [x_ap_un m (j + 1) _ 3 _ (by omega) (by omega), q_un _ _ (by omega), Nat.add_zero, q_us]; rfl
    | succ q =>
      rw [show l + j + (q + 1) = l + (j + 1) + q by omega, x_ap_by m (j + 1) _ q (by omega)]
      congr 2; omega
theorem r_ap_un {v : Int64} {l : Nat} : ∀ (m j : Nat) (I : Nat → Nat → Int32) (i k : Nat), ¬ (i = 63 ∧ l + j ≤ k ∧ k < l + j + m) → ¬ (i = 62 ∧ k = 1) → r_ap v l m j I i k = I i k
  | 0, _, _, _, _, _, _ => rfl
  | m + 1, j, I, i, k, h1, h2 => by
    unfold r_ap
    rw [r_ap_un m (j + 1) _ i k (by omega) h2, q_un _ _ h2, q_un _ _ (by omega)]
theorem r_ap_len {v : Int64} {l : Nat} : ∀ (m j : Nat) (I : Nat → Nat → Int32), I 62 1 = nI (l + j) → r_ap v l m j I 62 1 = nI (l + j + m)
  | 0, _, _, h => h
  | m + 1, j, I, h => by
    unfold r_ap
    rw [r_ap_len m (j + 1) _ (show q_u (q_u I 63 (l + j) (r_by v (nI (8 * m)))) 62 1 (nI (l + j + 1)) 62 1 = nI (l + (j + 1)) from q_us _ _ _ _)]
    congr 1; omega
theorem r_ap_by {v : Int64} {l : Nat} : ∀ (m j : Nat) (I : Nat → Nat → Int32) (q : Nat), q < m → r_ap v l m j I 63 (l + j + q) = r_by v (nI (8 * (m - 1 - q)))
  | 0, _, _, _, h => absurd h (Nat.not_lt_zero _)
  | m + 1, j, I, q, h => by
    unfold r_ap
    cases q with
    | zero => rw [r_ap_un m (j + 1) _ 63 _ (by omega) (by omega), q_un _ _ (by omega), Nat.add_zero, q_us]; rfl
    | succ q =>
      rw [show l + j + (q + 1) = l + (j + 1) + q by omega, r_ap_by m (j + 1) _ q (by omega)]
      congr 2; omega
theorem s_feed (v : Int64) : s_Stp 68 100 [.long v] := by
  intro d sw gc I J h
  obtain ⟨⟨l, l1, l2, l3, l4⟩, b, c, dd, u, f, g, z, s⟩ := h
  by_cases hl : l ≤ 192
  · have e62 : x_ap v l 8 0 I 62 1 = nI l := (x_ap_un 8 0 I 62 1 (by omega) (by omega)).trans l3
    have hu : ∀ i j, ¬ (i = 2 ∧ j = 1) → ¬ i = 3 → ¬ (i = 62 ∧ j = 1) → ¬ i = 63 → r_ap v l 8 0 (x_ap v l 8 0 I) i j = I i j := by
      intro i j h1 h2 h3 h4
      rw [r_ap_un 8 0 _ i j (by omega) h3, x_ap_un 8 0 I i j (by omega) h1]
    have e1 : x_ap v l 8 0 I 2 1 = nI (l + 8) := x_ap_len 8 0 I l2
    have e2 : r_ap v l 8 0 (x_ap v l 8 0 I) 62 1 = nI (l + 8) := r_ap_len 8 0 _ e62
    refine ⟨_, sw, gc, _, J, _, J, Nat.le_refl _, x_feed (d := d + 11) l2 hl, GM_r (r_feed (d := d + 12) e62 hl) (e2.trans e1.symm), ⟨l + 8, by omega, ?_, e2, ?_⟩, s_bk_c b (fun i j hi => hu i j (by omega) (by omega) (by omega) (by omega)), s_wl_c c (fun i j hi => hu i j (by omega) (by omega) (by omega) (by omega)), s_gg_c dd (fun i j hi => hu i j (by omega) (by omega) (by omega) (by omega)), s_un_c u (fun i j hi => hu i j (by omega) (by omega) (by omega) (by omega)), s_ac_c f (fun i j hi => hu i j (by omega) (by omega) (by omega) (by omega)), s_sc_c g (fun i j hi => hu i j (by omega) (by omega) (by omega) (by omega)), s_sz_c z (fun i j hi => hu i j (by omega) (by omega) (by omega) (by omega)), s_sh_c s (fun i j hi => hu i j (by omega) (by omega) (by omega) (by omega)) (fun _ _ _ => rfl)⟩
    · rw [r_ap_un 8 0 _ 2 1 (by omega) (by omega)]; exact e1
    · intro p hp
      rw [r_ap_un 8 0 _ 3 p (by omega) (by omega)]
      by_cases h1 : p < l
      · rw [r_ap_un 8 0 _ 63 p (by omega) (by omega), x_ap_un 8 0 I 63 p (by omega) (by omega), x_ap_un 8 0 I 3 p (by omega) (by omega)]
        exact l4 p h1
      · obtain ⟨q, rfl⟩ : ∃ q, p = l + 0 + q := ⟨p - l, by omega⟩
        rw [r_ap_by 8 0 _ q (by omega), x_ap_by 8 0 I q (by omega)]
        exact (q_byte (by omega)).symm
  · exact s_keep ⟨⟨l, l1, l2, l3, l4⟩, b, c, dd, u, f, g, z, s⟩ (x_feedF (d := d + 11) l2 (by omega) l1) (r_feedF (d := d + 12) l3 (by omega) l1)
theorem s_end (x : Int32) : s_Stp 69 101 [.int x] := by
  intro d sw gc I J h
  have h' := h
  obtain ⟨⟨l, l1, l2, l3, l4⟩, b, c, dd, u, f, g, z, s⟩ := h
  rcases q_ix x (n := l + 1) (by omega) with ⟨j, hj, rfl⟩ | hx
  · have h0 : ¬ nI j < 0 := nI_pos (by omega)
    have h1 : nI j ≤ I 2 1 := by rw [l2]; exact nI_le (by omega) (by omega)
    have h2 : f_i3 (nI j) 0 (I 62 1) = 1 := by rw [l3]; exact f_i3_n (by omega) (by omega)
    have hu : ∀ i j', ¬ (i = 2 ∧ j' = 1) → ¬ (i = 62 ∧ j' = 1) → q_u (q_u I 2 1 (nI j)) 62 1 (nI j) i j' = I i j' := by
      intro i j' a1 a2
      rw [q_un _ _ a2, q_un _ _ a1]
    refine ⟨_, sw, gc, _, J, _, J, Nat.le_refl _, x_end (d := d + 11) h0 h1, GM_r (r_end (d := d + 11) (I := q_u I 2 1 (nI j)) h2) (l3.trans l2.symm), ⟨j, by omega, rfl, rfl, ?_⟩, s_bk_c b (fun i j hi => hu i j (by omega) (by omega)), s_wl_c c (fun i j hi => hu i j (by omega) (by omega)), s_gg_c dd (fun i j hi => hu i j (by omega) (by omega)), s_un_c u (fun i j hi => hu i j (by omega) (by omega)), s_ac_c f (fun i j hi => hu i j (by omega) (by omega)), s_sc_c g (fun i j hi => hu i j (by omega) (by omega)), s_sz_c z (fun i j hi => hu i j (by omega) (by omega)), s_sh_c s (fun i j hi => hu i j (by omega) (by omega)) (fun _ _ _ => rfl)⟩
    intro p hp
    rw [hu 63 p (by omega) (by omega), hu 3 p (by omega) (by omega)]
    exact l4 p (by omega)
  · have h3 : x < 0 ∨ nI l < x := by
      rcases hx with h4 | h4
      · exact Or.inl h4
      · right
        rw [q_le_int, nI_toInt (by omega)] at h4
        rw [q_lt_int, nI_toInt (by omega)]; omega
    refine s_keep h' (x_endB (d := d + 11) ?_) (r_endB (d := d + 11) ?_)
    · rw [l2]
      rcases h3 with h4 | h4
      · exact Or.inl h4
      · exact Or.inr (Int32.not_le.mpr h4)
    · rw [l3]; exact f_i3_0 h3
theorem s_fault : s_Stp 71 112 [] := by
  intro d sw gc I J h
  exact s_keep h (x_fault (d := d + 12)) (GM_r (r_fault (d := d + 12)) h.2.2.2.2.2.2.1.1.symm)
