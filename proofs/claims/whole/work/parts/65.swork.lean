/-! ===== work ===== -/
theorem x_loB_at (M : Nat → Nat → Int32) (w : Nat) (h : Int32) (i j : Nat) : x_loB M w h i j = if (w < 24 ∧ ¬ h = -4 ∧ ¬ M (w + 16) 1 - M (w + 6 + 16) 1 < h) ∧ i = w + 6 + 16 ∧ j = 2 then 1 else M i j := by
  unfold x_loB x_loA
  by_cases h1 : w < 24
  · rw [if_pos h1]
    by_cases h2 : h = -4
    · rw [if_pos h2, if_neg (fun e => e.1.2.1 h2)]
    · rw [if_neg h2]
      by_cases h3 : M (w + 16) 1 - M (w + 6 + 16) 1 < h
      · rw [if_pos h3, if_neg (fun e => e.1.2.2 h3)]
      · rw [if_neg h3]
        by_cases h4 : i = w + 6 + 16 ∧ j = 2
        · rw [if_pos ⟨⟨h1, h2, h3⟩, h4⟩, h4.1, h4.2, q_us]
        · rw [if_neg (fun e => h4 e.2), q_un _ _ h4]
  · rw [if_neg h1, if_neg (fun e => h1 e.1.1)]
theorem r_loB_at (N : Nat → Nat → Int32) (w i j : Nat) : r_loB N w i j = if (w < 24 ∧ ¬ N 64 1 = -4 ∧ ¬ N 71 w - N 71 (w + 6) < N 64 1) ∧ i = 72 ∧ j = w + 6 then 1 else N i j := by
  unfold r_loB r_loA
  by_cases h1 : w < 24
  · rw [if_pos h1]
    by_cases h2 : N 64 1 = -4
    · rw [if_pos h2, if_neg (fun e => e.1.2.1 h2)]
    · rw [if_neg h2]
      by_cases h3 : N 71 w - N 71 (w + 6) < N 64 1
      · rw [if_pos h3, if_neg (fun e => e.1.2.2 h3)]
      · rw [if_neg h3]
        by_cases h4 : i = 72 ∧ j = w + 6
        · rw [if_pos ⟨⟨h1, h2, h3⟩, h4⟩, h4.1, h4.2, q_us]
        · rw [if_neg (fun e => h4 e.2), q_un _ _ h4]
  · rw [if_neg h1, if_neg (fun e => h1 e.1.1)]
theorem x_wB_un2 (sw : Bool) (I : Nat → Nat → Int32) (w : Nat) {a b : Nat} (h : ¬ (a = 0 ∧ (b = 12 ∨ b = 13)) ∧ ¬ (a = w + 16 ∧ b = 1) ∧ ¬ (w < 24 ∧ a = w + 6 + 16 ∧ b = 2)) : x_wB sw I w a b = I a b := by
  unfold x_wB
  rw [x_loB_at, if_neg (fun e => h.2.2 ⟨e.1.1, e.2⟩), q_un _ _ (by omega), q_un _ _ (by omega), q_un _ _ (by omega)]
theorem x_tp_un {M : Nat → Nat → Int32} {k : Nat} {p t : Int32} {i j : Nat} (h : ¬ (i = 2 * k + 89 ∧ (j = 2 ∨ j = 6 ∨ j = 7))) : x_tp M k p t i j = M i j := by
  unfold x_tp
  split
  · rw [q_un _ _ (by omega), q_un _ _ (by omega), q_un _ _ (by omega), q_un _ _ (by omega)]
  · rw [q_un _ _ (by omega), q_un _ _ (by omega)]
theorem x_tp_at {M : Nat → Nat → Int32} {k : Nat} {p t : Int32} : x_tp M k p t (2 * k + 89) 2 = (if M (2 * k + 89) 7 = 0 then M (2 * k + 89) 2 + p - t * M (2 * k + 89) 1 else M (2 * k + 89) 2 + p) ∧ x_tp M k p t (2 * k + 89) 6 = M (2 * k + 89) 6 + 1 ∧ x_tp M k p t (2 * k + 89) 7 = (if M (2 * k + 89) 7 = 0 then 1 else M (2 * k + 89) 7) := by
  unfold x_tp
  by_cases h : M (2 * k + 89) 7 = 0
  · rw [if_pos h, if_pos h, if_pos h]
    refine ⟨?_, ?_, ?_⟩
    · rw [q_un _ _ (by omega), q_un _ _ (by omega), q_us]
    · rw [q_us]
    · rw [q_un _ _ (by omega), q_us]
  · rw [if_neg h, if_neg h, if_neg h]
    refine ⟨?_, ?_, ?_⟩
    · rw [q_un _ _ (by omega), q_us]
    · rw [q_us]
    · rw [q_un _ _ (by omega), q_un _ _ (by omega)]
theorem r_wk1_at {K : Nat → Nat → Int32} {k : Nat} {a o : Int32} : r_wk1 K k a o 75 k = (if K 80 k = 0 then (K 75 k + (a - o)) - (r_lo K 2 * K 74 k) else K 75 k + (a - o)) ∧ r_wk1 K k a o 80 k = (if K 80 k = 0 then 1 else K 80 k) ∧ r_wk1 K k a o 62 31 = K 62 31 + o := by
  unfold r_wk1
  by_cases h : K 80 k = 0
  · rw [if_pos h, if_pos h, if_pos h]
    refine ⟨?_, ?_, ?_⟩
    · rw [q_us]
    · rw [q_un _ _ (by omega), q_us]
    · rw [q_un _ _ (by omega), q_un _ _ (by omega), q_un _ _ (by omega), q_us]
  · rw [if_neg h, if_neg h, if_neg h]
    refine ⟨?_, ?_, ?_⟩
    · rw [q_us]
    · rw [q_un _ _ (by omega), q_un _ _ (by omega)]
    · rw [q_un _ _ (by omega), q_us]
theorem r_wl_un : ∀ (l : List (Option Nat)) (K : Nat → Nat → Int32) (i j : Nat), ¬ i = 84 → ¬ (i = 62 ∧ j = 37) → r_wl l K i j = K i j
  | [], _, _, _, _, _ => rfl
  | none :: t, K, i, j, h1, h2 => by
    unfold r_wl
    rw [r_wl_un t _ i j h1 h2, q_un _ _ h2]
  | some k :: t, K, i, j, h1, h2 => by
    unfold r_wl
    rw [r_wl_un t _ i j h1 h2, q_un _ _ (by omega)]
theorem r_wl_37 : ∀ (l : List (Option Nat)) (K : Nat → Nat → Int32), r_wl l K 62 37 = K 62 37 + nI (q_cn0 l)
  | [], K => by
    show K 62 37 = K 62 37 + nI 0
    rw [show nI 0 = (0 : Int32) from rfl, Int32.add_zero]
  | none :: t, K => by
    unfold r_wl q_cn0
    rw [r_wl_37 t, q_us, Int32.add_assoc, show (1 : Int32) + nI (q_cn0 t) = nI (q_cn0 t + 1) by rw [Int32.add_comm]; exact nI_1 _]
  | some k :: t, K => by
    unfold r_wl q_cn0
    rw [r_wl_37 t, q_un _ _ (by omega)]
theorem s_csl : ∀ (l : List (Option Nat)) (A K : Nat → Nat → Int32), (∀ q, q < 8 → A 50 q = K 84 q) → ∀ q, q < 8 → x_csl l A 50 q = r_wl l K 84 q
  | [], _, _, h, q, hq => h q hq
  | none :: t, A, K, h, q, hq => by
    unfold x_csl r_wl
    exact s_csl t A _ (fun q hq => by rw [q_un _ _ (by omega)]; exact h q hq) q hq
  | some k :: t, A, K, h, q, hq => by
    unfold x_csl r_wl
    refine s_csl t _ _ (fun q hq => ?_) q hq
    by_cases e : q = k
    · subst e; rw [q_us, q_us, h q hq]
    · rw [q_un _ _ (by omega), q_un _ _ (by omega)]; exact h q hq
theorem r_pd_c {I K : Nat → Nat → Int32} {g : Int32} (h : ∀ j, K 65 j = I 65 j) (h2 : ∀ j, K 66 j = I 66 j) : ∀ (m i : Nat), r_pd K g m i = r_pd I g m i
  | 0, _ => rfl
  | m + 1, i => by
    unfold r_pd
    rw [h i, h2 i, r_pd_c h h2 m (i + 1)]
theorem r_lo_c {I K : Nat → Nat → Int32} {k : Nat} (h : K 64 k = I 64 k) : r_lo K k = r_lo I k := by
  unfold r_lo
  rw [h]
theorem x_num_c {sw : Bool} {I K : Nat → Nat → Int32} {k : Nat} (h5 : K 5 k = I 5 k) (h10 : K 10 k = I 10 k) : x_num sw K k = x_num sw I k := by
  cases sw with
  | false => exact h5
  | true => exact h10
theorem x_pnd_c {sw : Bool} {I K : Nat → Nat → Int32} {g : Int32} {c : Nat} (h : ∀ i j, 4 ≤ i ∧ i ≤ 13 → K i j = I i j) : x_pnd sw K g c = x_pnd sw I g c := by
  cases sw with
  | false => exact x_pd4_congr (fun b => h 7 b (by omega)) (fun b => h 8 b (by omega)) c 0
  | true => exact x_pd9_congr (fun b => h 12 b (by omega)) (fun b => h 13 b (by omega)) c 0
theorem s_wk {sw : Bool} {gc n len k w c : Nat} {L P : Nat → Nat} {F : Int64} {I : Nat → Nat → Int32} {J : Nat → Nat → Int64} (h : s_Rel sw gc I J) (z1 : x_Sz I n L) (z2 : r_Sz I n L P) (z3 : ∀ k, k < n → I 49 k = I 83 k) (z4 : ∀ k, k < 8 → I 50 k = I 84 k) (hk : k < gc) (hw : w < 30) (hwk : I 77 k = nI w) (l2 : len ≤ 40) (hp : ∀ g, x_pnd sw I g c = r_pd I g c 0) : r_wkr (x_wb sw I L n len F w k c) L P n len F w k c = x_wbr sw I L n len F w k c ∧ s_Rel sw gc (r_wks (x_wb sw I L n len F w k c) L P n len F w k c) J := by
  obtain ⟨tp, bk, wl, gg, un, ac, sc, sz, sh⟩ := h
  have hg := gg.1
  obtain ⟨gs, gm, gk⟩ := gg.2.2.2 k hk
  have hs := s_sps z1 z2 z3
  have hps := s_pcs (F := F) hs z2.lp l2
  have hdp := s_mo (F := F) hs z2.lp l2 (Nat.zero_le _)
  -- the class
  have a8 : x_wA I L n len F 47 8 = nI (y_dp L P n F len 0) := by
    unfold x_wA
    rw [x_csl_un _ _ _ _ (by decide), x_ctI_8, hdp]
  have a7 : x_wA I L n len F 47 7 = nI (q_cn0 (y_ps L P n F len)) := by
    unfold x_wA
    rw [x_csl_un _ _ _ _ (by decide), x_ctI_7, hps]
  have aU : ∀ i j, ¬ (i = 50 ∨ i = 51 ∨ i = 52 ∨ i = 47) → x_wA I L n len F i j = I i j := fun i j hi => x_wA_un (by omega)
  have a473 : x_wA I L n len F 47 3 = I 47 3 := x_wA_un (by omega)
  have n1 : x_num sw (x_wA I L n len F) 1 = I 64 1 := by
    rw [x_num_c (aU 5 1 (by omega)) (aU 10 1 (by omega)), s_num bk (by decide)]
    unfold r_lo
    by_cases e : I 64 1 = -4
    · rw [if_pos e, if_pos (by decide)]
    · rw [if_neg e]
  have bU : ∀ i j, ¬ (i = 50 ∨ i = 51 ∨ i = 52 ∨ i = 47) → ¬ (i = 0 ∧ (j = 12 ∨ j = 13)) → ¬ (i = w + 16 ∧ j = 1) → ¬ (w < 24 ∧ i = w + 6 + 16 ∧ j = 2) → x_wB sw (x_wA I L n len F) w i j = I i j := fun i j h1 h2 h3 h4 => (x_wB_un2 sw _ w (by omega)).trans (aU i j h1)
  have b8 : x_wB sw (x_wA I L n len F) w 47 8 = nI (y_dp L P n F len 0) := (x_wB_un2 sw _ w (by omega)).trans a8
  have bB : ∀ i j, 4 ≤ i ∧ i ≤ 13 → x_wB sw (x_wA I L n len F) w i j = I i j := fun i j hi => bU i j (by omega) (by omega) (by omega) (by omega)
  have g5 : I (2 * k + 89) 5 = I 78 k := by rw [gs.2.2.2.2.1, hwk, if_neg (q_neN (by decide) (by omega))]
  have eE : x_ear sw (x_wB sw (x_wA I L n len F) w) w k c = (nI (y_dp L P n F len 0) + ((nI (y_dp L P n F len 0) * r_pd I (I 70 w) c 0) / 100)) + I 78 k := by
    unfold x_ear
    rw [b8, bU (w + 16) 0 (by omega) (by omega) (by omega) (by omega), (wl w hw).1, x_pnd_c bB, hp, bU (2 * k + 89) 5 (by omega) (by omega) (by omega) (by omega), g5]
  have eO : x_clb sw (x_wB sw (x_wA I L n len F) w) w k c = (((nI (y_dp L P n F len 0) + ((nI (y_dp L P n F len 0) * r_pd I (I 70 w) c 0) / 100)) + I 78 k) * r_lo I 3) / 100 := by
    unfold x_clb
    rw [eE, x_num_c (bB 5 3 (by omega)) (bB 10 3 (by omega)), s_num bk (by decide)]
  have eN2 : x_num sw (x_wB sw (x_wA I L n len F) w) 2 = r_lo I 2 := by
    rw [x_num_c (bB 5 2 (by omega)) (bB 10 2 (by omega)), s_num bk (by decide)]
  generalize hEar : (nI (y_dp L P n F len 0) + ((nI (y_dp L P n F len 0) * r_pd I (I 70 w) c 0) / 100)) + I 78 k = ear at eE eO
  generalize hOff : (ear * r_lo I 3) / 100 = off at eO
  have cE : ∀ i j, x_wb sw I L n len F w k c i j = x_tp (q_u (x_wB sw (x_wA I L n len F) w) 0 11 (x_wB sw (x_wA I L n len F) w 0 11 + off)) k (ear - off) (r_lo I 2) i j := by
    intro i j
    unfold x_wb x_wC
    rw [eE, eO, eN2]
  have cU : ∀ i j, ¬ (i = 2 * k + 89 ∧ (j = 2 ∨ j = 6 ∨ j = 7)) → ¬ (i = 0 ∧ j = 11) → x_wb sw I L n len F w k c i j = x_wB sw (x_wA I L n len F) w i j := by
    intro i j h1 h2
    rw [cE, x_tp_un h1, q_un _ _ h2]
  have cV : ∀ i j, ¬ (i = 50 ∨ i = 51 ∨ i = 52 ∨ i = 47) → ¬ (i = 0 ∧ (j = 11 ∨ j = 12 ∨ j = 13)) → ¬ (i = w + 16 ∧ j = 1) → ¬ (w < 24 ∧ i = w + 6 + 16 ∧ j = 2) → ¬ (i = 2 * k + 89 ∧ (j = 2 ∨ j = 6 ∨ j = 7)) → x_wb sw I L n len F w k c i j = I i j := by
    intro i j h1 h2 h3 h4 h5
    rw [cU i j h5 (by omega), bU i j h1 (by omega) h3 h4]
  have cT := x_tp_at (M := q_u (x_wB sw (x_wA I L n len F) w) 0 11 (x_wB sw (x_wA I L n len F) w 0 11 + off)) (k := k) (p := ear - off) (t := r_lo I 2)
  rw [← cE, ← cE, ← cE, q_un _ _ (by omega), q_un _ _ (by omega), q_un _ _ (by omega), q_un _ _ (by omega), bU (2 * k + 89) 7 (by omega) (by omega) (by omega) (by omega), bU (2 * k + 89) 2 (by omega) (by omega) (by omega) (by omega), bU (2 * k + 89) 1 (by omega) (by omega) (by omega) (by omega), bU (2 * k + 89) 6 (by omega) (by omega) (by omega) (by omega), gs.1, gs.2.1, gs.2.2.2.2.2.1, gs.2.2.2.2.2.2] at cT
  obtain ⟨cT2, cT6, cT7⟩ := cT
  have c11 : x_wb sw I L n len F w k c 0 11 = I 0 11 + off := by
    rw [cE, x_tp_un (by omega), q_us, bU 0 11 (by omega) (by omega) (by omega) (by omega)]
  have bE : ∀ i j, x_wB sw (x_wA I L n len F) w i j = if (w < 24 ∧ ¬ I 64 1 = -4 ∧ ¬ I 71 w + 1 - I 71 (w + 6) < I 64 1) ∧ i = w + 6 + 16 ∧ j = 2 then 1 else q_u (q_u (q_u (x_wA I L n len F) 0 13 (x_wA I L n len F 0 13 + x_wA I L n len F 47 7)) 0 12 (x_wA I L n len F 0 12 + 1)) (w + 16) 1 (x_wA I L n len F (w + 16) 1 + 1) i j := by
    intro i j
    unfold x_wB
    have m1 : q_u (q_u (q_u (x_wA I L n len F) 0 13 (x_wA I L n len F 0 13 + x_wA I L n len F 47 7)) 0 12 (x_wA I L n len F 0 12 + 1)) (w + 16) 1 (x_wA I L n len F (w + 16) 1 + 1) (w + 16) 1 = I 71 w + 1 := by
      rw [q_us, aU (w + 16) 1 (by omega), (wl w hw).2.1]
    by_cases h24 : w < 24
    · have m2 : q_u (q_u (q_u (x_wA I L n len F) 0 13 (x_wA I L n len F 0 13 + x_wA I L n len F 47 7)) 0 12 (x_wA I L n len F 0 12 + 1)) (w + 16) 1 (x_wA I L n len F (w + 16) 1 + 1) (w + 6 + 16) 1 = I 71 (w + 6) := by
        rw [q_un _ _ (by omega), q_un _ _ (by omega), q_un _ _ (by omega), aU (w + 6 + 16) 1 (by omega), (wl (w + 6) (by omega)).2.1]
      rw [x_loB_at, n1, m1, m2]
    · rw [x_loB_at, if_neg (fun e => h24 e.1.1), if_neg (fun e => h24 e.1.1)]
  have c12 : x_wb sw I L n len F w k c 0 12 = I 0 12 + 1 := by
    rw [cU 0 12 (by omega) (by omega), bE, if_neg (by omega), q_un _ _ (by omega), q_us, aU 0 12 (by omega)]
  have c13 : x_wb sw I L n len F w k c 0 13 = I 0 13 + nI (q_cn0 (y_ps L P n F len)) := by
    rw [cU 0 13 (by omega) (by omega), bE, if_neg (by omega), q_un _ _ (by omega), q_un _ _ (by omega), q_us, aU 0 13 (by omega), a7]
  have cs : x_wb sw I L n len F w k c (w + 16) 1 = I (w + 16) 1 + 1 := by
    rw [cU (w + 16) 1 (by omega) (by omega), bE, if_neg (by omega), q_us, aU (w + 16) 1 (by omega)]
  have cl : ∀ v, v < 30 → x_wb sw I L n len F w k c (v + 16) 2 = if (w < 24 ∧ ¬ I 64 1 = -4 ∧ ¬ I 71 w + 1 - I 71 (w + 6) < I 64 1) ∧ v = w + 6 then 1 else x_wA I L n len F (v + 16) 2 := by
    intro v hv
    rw [cU (v + 16) 2 (by omega) (by omega), bE]
    by_cases e : (w < 24 ∧ ¬ I 64 1 = -4 ∧ ¬ I 71 w + 1 - I 71 (w + 6) < I 64 1) ∧ v = w + 6
    · rw [if_pos e, if_pos ⟨e.1, by omega, rfl⟩]
    · rw [if_neg e, if_neg (fun e2 => e ⟨e2.1, by omega⟩), q_un _ _ (by omega), q_un _ _ (by omega), q_un _ _ (by omega)]
  have c50 : ∀ q, x_wb sw I L n len F w k c 50 q = x_csl (y_ps L P n F len) (x_ctI I L n len F) 50 q := by
    intro q
    rw [cU 50 q (by omega) (by omega), x_wB_un2 sw _ w (by omega)]
    unfold x_wA
    rw [hps]
  -- the reference
  generalize hC : x_wb sw I L n len F w k c = C at *
  have mU : ∀ i j, ¬ i = 85 → r_mo C L P n len F i j = C i j := fun i j hi => r_mo_un hi
  have C62 : ∀ i j, 62 ≤ i → i ≤ 88 → C i j = I i j := fun i j h1 h2 => cV i j (by omega) (by omega) (by omega) (by omega) (by omega)
  have mI : ∀ i j, 62 ≤ i → i ≤ 84 → r_mo C L P n len F i j = I i j := fun i j h1 h2 => (mU i j (by omega)).trans (C62 i j h1 (by omega))
  have eR : r_ear (r_mo C L P n len F) w k c (nI (y_dp L P n F len 0)) = ear := by
    unfold r_ear
    rw [mI 70 w (by omega) (by omega), mI 78 k (by omega) (by omega), r_pd_c (I := I) (fun j => mI 65 j (by omega) (by omega)) (fun j => mI 66 j (by omega) (by omega)), hEar]
  have oR : r_off (r_mo C L P n len F) w k c (nI (y_dp L P n F len 0)) = off := by
    unfold r_off
    rw [eR, r_lo_c (I := I) (mI 64 3 (by omega) (by omega)), hOff]
  refine ⟨?_, ?_⟩
  · unfold r_wkr x_wbr
    rw [eR, oR, eE, eO]
  · unfold r_wks
    rw [eR, oR]
    have w1 := r_wk1_at (K := r_mo C L P n len F) (k := k) (a := ear) (o := off)
    rw [mI 80 k (by omega) (by omega), mI 75 k (by omega) (by omega), mI 74 k (by omega) (by omega), mI 62 31 (by omega) (by omega), r_lo_c (I := I) (mI 64 2 (by omega) (by omega))] at w1
    obtain ⟨w75, w80, w31⟩ := w1
    generalize hK : r_wk1 (r_mo C L P n len F) k ear off = K1 at *
    have kU : ∀ i j, ¬ i = 85 → ¬ (i = 62 ∧ j = 31) → ¬ (i = 75 ∧ j = k) → ¬ (i = 80 ∧ j = k) → K1 i j = C i j := by
      intro i j h1 h2 h3 h4
      rw [← hK, r_wk1_un (by omega), mU i j h1]
    have k2U : ∀ i j, ¬ i = 84 → ¬ (i = 62 ∧ j = 37) → r_wl (y_ps L P n F len) K1 i j = K1 i j := fun i j h1 h2 => r_wl_un _ _ i j h1 h2
    have k37 : r_wl (y_ps L P n F len) K1 62 37 = I 62 37 + nI (q_cn0 (y_ps L P n F len)) := by
      rw [r_wl_37, kU 62 37 (by omega) (by omega) (by omega) (by omega), C62 62 37 (by omega) (by omega)]
    have k84 : ∀ q, q < 8 → C 50 q = r_wl (y_ps L P n F len) K1 84 q := by
      intro q hq
      rw [c50]
      refine s_csl _ _ _ (fun q hq => ?_) q hq
      rw [x_ctI_un (by omega), kU 84 q (by omega) (by omega) (by omega) (by omega), C62 84 q (by omega) (by omega)]
      exact z4 q hq
    generalize hK2 : r_wl (y_ps L P n F len) K1 = K2 at *
    have fE : ∀ i j, r_wk2 K2 w k i j = if (w < 24 ∧ ¬ I 64 1 = -4 ∧ ¬ I 71 w + 1 - I 71 (w + 6) < I 64 1) ∧ i = 72 ∧ j = w + 6 then 1 else q_u (q_u (q_u K2 71 w (K2 71 w + 1)) 79 k (K2 79 k + 1)) 62 36 (K2 62 36 + 1) i j := by
      intro i j
      unfold r_wk2
      rw [r_loB_at, q_un _ _ (show ¬ (64 = 62 ∧ 1 = 36) by omega), q_un _ _ (show ¬ (64 = 79 ∧ 1 = k) by omega), q_un _ _ (show ¬ (64 = 71 ∧ 1 = w) by omega), q_un _ _ (show ¬ (71 = 62 ∧ w = 36) by omega), q_un _ _ (show ¬ (71 = 79 ∧ w = k) by omega), q_us, q_un _ _ (show ¬ (71 = 62 ∧ w + 6 = 36) by omega), q_un _ _ (show ¬ (71 = 79 ∧ w + 6 = k) by omega), q_un _ _ (show ¬ (71 = 71 ∧ w + 6 = w) by omega), k2U 64 1 (by omega) (by omega), kU 64 1 (by omega) (by omega) (by omega) (by omega), C62 64 1 (by omega) (by omega), k2U 71 w (by omega) (by omega), kU 71 w (by omega) (by omega) (by omega) (by omega), C62 71 w (by omega) (by omega), k2U 71 (w + 6) (by omega) (by omega), kU 71 (w + 6) (by omega) (by omega) (by omega) (by omega), C62 71 (w + 6) (by omega) (by omega)]
    have fU : ∀ i j, ¬ (i = 72 ∧ j = w + 6) → ¬ (i = 71 ∧ j = w) → ¬ (i = 79 ∧ j = k) → ¬ (i = 62 ∧ j = 36) → r_wk2 K2 w k i j = K2 i j := by
      intro i j h1 h2 h3 h4
      rw [fE, if_neg (fun e => h1 e.2), q_un _ _ h4, q_un _ _ h3, q_un _ _ h2]
    have fC : ∀ i j, ¬ (i = 72 ∧ j = w + 6) → ¬ (i = 71 ∧ j = w) → ¬ (i = 79 ∧ j = k) → ¬ (i = 62 ∧ (j = 36 ∨ j = 37 ∨ j = 31)) → ¬ i = 84 → ¬ i = 85 → ¬ (i = 75 ∧ j = k) → ¬ (i = 80 ∧ j = k) → r_wk2 K2 w k i j = C i j := by
      intro i j h1 h2 h3 h4 h5 h6 h7 h8
      rw [fU i j h1 h2 h3 (by omega), k2U i j h5 (by omega), kU i j h6 (by omega) h7 h8]
    have fI : ∀ i j, ¬ (i = 50 ∨ i = 51 ∨ i = 52 ∨ i = 47) → ¬ (i = 0 ∧ (j = 11 ∨ j = 12 ∨ j = 13)) → ¬ (i = w + 16 ∧ j = 1) → ¬ (w < 24 ∧ i = w + 6 + 16 ∧ j = 2) → ¬ (i = 2 * k + 89 ∧ (j = 2 ∨ j = 6 ∨ j = 7)) → ¬ (i = 72 ∧ j = w + 6) → ¬ (i = 71 ∧ j = w) → ¬ (i = 79 ∧ j = k) → ¬ (i = 62 ∧ (j = 36 ∨ j = 37 ∨ j = 31)) → ¬ i = 84 → ¬ i = 85 → ¬ (i = 75 ∧ j = k) → ¬ (i = 80 ∧ j = k) → r_wk2 K2 w k i j = I i j := by
      intro i j a1 a2 a3 a4 a5 a6 a7 a8 a9 a10 a11 a12 a13
      rw [fC i j a6 a7 a8 a9 a10 a11 a12 a13, cV i j a1 a2 a3 a4 a5]
    have f71 : r_wk2 K2 w k 71 w = I 71 w + 1 := by
      rw [fE, if_neg (by omega), q_un _ _ (by omega), q_un _ _ (by omega), q_us, k2U 71 w (by omega) (by omega), kU 71 w (by omega) (by omega) (by omega) (by omega), C62 71 w (by omega) (by omega)]
    have f79 : r_wk2 K2 w k 79 k = I 79 k + 1 := by
      rw [fE, if_neg (by omega), q_un _ _ (by omega), q_us, k2U 79 k (by omega) (by omega), kU 79 k (by omega) (by omega) (by omega) (by omega), C62 79 k (by omega) (by omega)]
    have f36 : r_wk2 K2 w k 62 36 = I 62 36 + 1 := by
      rw [fE, if_neg (by omega), q_us, k2U 62 36 (by omega) (by omega), kU 62 36 (by omega) (by omega) (by omega) (by omega), C62 62 36 (by omega) (by omega)]
    have f37 : r_wk2 K2 w k 62 37 = I 62 37 + nI (q_cn0 (y_ps L P n F len)) := by
      rw [fU 62 37 (by omega) (by omega) (by omega) (by omega), k37]
    have f31 : r_wk2 K2 w k 62 31 = I 62 31 + off := by
      rw [fU 62 31 (by omega) (by omega) (by omega) (by omega), k2U 62 31 (by omega) (by omega), w31]
    have f75 : r_wk2 K2 w k 75 k = _ := (fU 75 k (by omega) (by omega) (by omega) (by omega)).trans ((k2U 75 k (by omega) (by omega)).trans w75)
    have f80 : r_wk2 K2 w k 80 k = _ := (fU 80 k (by omega) (by omega) (by omega) (by omega)).trans ((k2U 80 k (by omega) (by omega)).trans w80)
    have f72 : ∀ v, r_wk2 K2 w k 72 v = if (w < 24 ∧ ¬ I 64 1 = -4 ∧ ¬ I 71 w + 1 - I 71 (w + 6) < I 64 1) ∧ v = w + 6 then 1 else I 72 v := by
      intro v
      rw [fE]
      by_cases e : (w < 24 ∧ ¬ I 64 1 = -4 ∧ ¬ I 71 w + 1 - I 71 (w + 6) < I 64 1) ∧ v = w + 6
      · rw [if_pos e, if_pos ⟨e.1, rfl, e.2⟩]
      · rw [if_neg e, if_neg (fun e2 => e ⟨e2.1, e2.2.2⟩), q_un _ _ (by omega), q_un _ _ (by omega), q_un _ _ (by omega), k2U 72 v (by omega) (by omega), kU 72 v (by omega) (by omega) (by omega) (by omega), C62 72 v (by omega) (by omega)]
    have f84 : ∀ q, r_wk2 K2 w k 84 q = K2 84 q := fun q => fU 84 q (by omega) (by omega) (by omega) (by omega)
    have f50 : ∀ q, r_wk2 K2 w k 50 q = C 50 q := fun q => fC 50 q (by omega) (by omega) (by omega) (by omega) (by omega) (by omega) (by omega) (by omega)
    refine ⟨s_tp_c tp (fun i j hi => fI i j (by omega) (by omega) (by omega) (by omega) (by omega) (by omega) (by omega) (by omega) (by omega) (by omega) (by omega) (by omega) (by omega)), s_bk_c bk (fun i j hi => fI i j (by omega) (by omega) (by omega) (by omega) (by omega) (by omega) (by omega) (by omega) (by omega) (by omega) (by omega) (by omega) (by omega)), ?_, ?_, ?_, s_ac_c ac (fun i j hi => fI i j (by omega) (by omega) (by omega) (by omega) (by omega) (by omega) (by omega) (by omega) (by omega) (by omega) (by omega) (by omega) (by omega)), ?_, ⟨n, L, P, x_Sz_c z1 ?_, r_Sz_c z2 (fun i j hi => fI i j (by omega) (by omega) (by omega) (by omega) (by omega) (by omega) (by omega) (by omega) (by omega) (by omega) (by omega) (by omega) (by omega)), fun q hq => ?_, fun q hq => ?_⟩, s_sh_c sh (fun i j hi => fI i j (by omega) (by omega) (by omega) (by omega) (by omega) (by omega) (by omega) (by omega) (by omega) (by omega) (by omega) (by omega) (by omega)) (fun _ _ _ => rfl)⟩
    · intro v hv
      refine ⟨?_, ?_, ?_, ?_⟩
      · rw [fI (v + 16) 0 (by omega) (by omega) (by omega) (by omega) (by omega) (by omega) (by omega) (by omega) (by omega) (by omega) (by omega) (by omega) (by omega), fI 70 v (by omega) (by omega) (by omega) (by omega) (by omega) (by omega) (by omega) (by omega) (by omega) (by omega) (by omega) (by omega) (by omega)]
        exact (wl v hv).1
      · by_cases e : v = w
        · subst e
          rw [f71, fC (v + 16) 1 (by omega) (by omega) (by omega) (by omega) (by omega) (by omega) (by omega) (by omega), cs, (wl v hv).2.1]
        · rw [fI (v + 16) 1 (by omega) (by omega) (by omega) (by omega) (by omega) (by omega) (by omega) (by omega) (by omega) (by omega) (by omega) (by omega) (by omega), fI 71 v (by omega) (by omega) (by omega) (by omega) (by omega) (by omega) (by omega) (by omega) (by omega) (by omega) (by omega) (by omega) (by omega)]
          exact (wl v hv).2.1
      · rw [f72, fC (v + 16) 2 (by omega) (by omega) (by omega) (by omega) (by omega) (by omega) (by omega) (by omega), cl v hv, aU (v + 16) 2 (by omega), (wl v hv).2.2.1]
      · rw [fI (v + 16) 3 (by omega) (by omega) (by omega) (by omega) (by omega) (by omega) (by omega) (by omega) (by omega) (by omega) (by omega) (by omega) (by omega), fI 73 v (by omega) (by omega) (by omega) (by omega) (by omega) (by omega) (by omega) (by omega) (by omega) (by omega) (by omega) (by omega) (by omega)]
        exact (wl v hv).2.2.2
    · refine s_gg_k (k := k) gg (fun i j hi => fI i j (by omega) (by omega) (by omega) (by omega) (by omega) (by omega) (by omega) (by omega) (by omega) (by omega) (by omega) (by omega) (by omega)) (fun _ => ⟨?_, s_gm_c gm (fun i hi => fI i k (by omega) (by omega) (by omega) (by omega) (by omega) (by omega) (by omega) (by omega) (by omega) (by omega) (by omega) (by omega) (by omega)), s_gk_c gk (fun i v hv => ⟨fun hi => fI i v (by omega) (by omega) (by omega) (by omega) (by omega) (by omega) (by omega) (by omega) (by omega) (by omega) (by omega) (by omega) (by omega), fun hi => fI i _ (by omega) (by omega) (by omega) (by omega) (by omega) (by omega) (by omega) (by omega) (by omega) (by omega) (by omega) (by omega) (by omega)⟩)⟩)
      unfold s_gs
      rw [fC (2 * k + 89) 2 (by omega) (by omega) (by omega) (by omega) (by omega) (by omega) (by omega) (by omega), fC (2 * k + 89) 6 (by omega) (by omega) (by omega) (by omega) (by omega) (by omega) (by omega) (by omega), fC (2 * k + 89) 7 (by omega) (by omega) (by omega) (by omega) (by omega) (by omega) (by omega) (by omega), cT2, cT6, cT7, f75, f79, f80]
      refine ⟨?_, rfl, ?_, ?_, ?_, rfl, rfl⟩
      · rw [fI (2 * k + 89) 1 (by omega) (by omega) (by omega) (by omega) (by omega) (by omega) (by omega) (by omega) (by omega) (by omega) (by omega) (by omega) (by omega), fI 74 k (by omega) (by omega) (by omega) (by omega) (by omega) (by omega) (by omega) (by omega) (by omega) (by omega) (by omega) (by omega) (by omega)]; exact gs.1
      · rw [fI (2 * k + 89) 3 (by omega) (by omega) (by omega) (by omega) (by omega) (by omega) (by omega) (by omega) (by omega) (by omega) (by omega) (by omega) (by omega), fI 76 k (by omega) (by omega) (by omega) (by omega) (by omega) (by omega) (by omega) (by omega) (by omega) (by omega) (by omega) (by omega) (by omega)]; exact gs.2.2.1
      · rw [fI (2 * k + 89) 4 (by omega) (by omega) (by omega) (by omega) (by omega) (by omega) (by omega) (by omega) (by omega) (by omega) (by omega) (by omega) (by omega), fI 77 k (by omega) (by omega) (by omega) (by omega) (by omega) (by omega) (by omega) (by omega) (by omega) (by omega) (by omega) (by omega) (by omega)]; exact gs.2.2.2.1
      · rw [fI (2 * k + 89) 5 (by omega) (by omega) (by omega) (by omega) (by omega) (by omega) (by omega) (by omega) (by omega) (by omega) (by omega) (by omega) (by omega), fI 77 k (by omega) (by omega) (by omega) (by omega) (by omega) (by omega) (by omega) (by omega) (by omega) (by omega) (by omega) (by omega) (by omega), fI 78 k (by omega) (by omega) (by omega) (by omega) (by omega) (by omega) (by omega) (by omega) (by omega) (by omega) (by omega) (by omega) (by omega)]; exact gs.2.2.2.2.1
    · intro j j1 j2
      obtain ⟨u1, u2, u3, u4, u5⟩ := un j j1 j2
      rw [fI 75 j (by omega) (by omega) (by omega) (by omega) (by omega) (by omega) (by omega) (by omega) (by omega) (by omega) (by omega) (by omega) (by omega), fI 76 j (by omega) (by omega) (by omega) (by omega) (by omega) (by omega) (by omega) (by omega) (by omega) (by omega) (by omega) (by omega) (by omega), fI 79 j (by omega) (by omega) (by omega) (by omega) (by omega) (by omega) (by omega) (by omega) (by omega) (by omega) (by omega) (by omega) (by omega), fI 80 j (by omega) (by omega) (by omega) (by omega) (by omega) (by omega) (by omega) (by omega) (by omega) (by omega) (by omega) (by omega) (by omega)]
      refine ⟨u1, u2, u3, u4, fun v hv => ?_⟩
      rw [fI 81 _ (by omega) (by omega) (by omega) (by omega) (by omega) (by omega) (by omega) (by omega) (by omega) (by omega) (by omega) (by omega) (by omega)]
      exact u5 v hv
    · unfold s_sc
      rw [f31, f36, f37, fC 0 11 (by omega) (by omega) (by omega) (by omega) (by omega) (by omega) (by omega) (by omega), fC 0 12 (by omega) (by omega) (by omega) (by omega) (by omega) (by omega) (by omega) (by omega), fC 0 13 (by omega) (by omega) (by omega) (by omega) (by omega) (by omega) (by omega) (by omega), c11, c12, c13, fI 0 3 (by omega) (by omega) (by omega) (by omega) (by omega) (by omega) (by omega) (by omega) (by omega) (by omega) (by omega) (by omega) (by omega), fI 0 8 (by omega) (by omega) (by omega) (by omega) (by omega) (by omega) (by omega) (by omega) (by omega) (by omega) (by omega) (by omega) (by omega), fI 0 9 (by omega) (by omega) (by omega) (by omega) (by omega) (by omega) (by omega) (by omega) (by omega) (by omega) (by omega) (by omega) (by omega), fI 62 6 (by omega) (by omega) (by omega) (by omega) (by omega) (by omega) (by omega) (by omega) (by omega) (by omega) (by omega) (by omega) (by omega), fI 62 29 (by omega) (by omega) (by omega) (by omega) (by omega) (by omega) (by omega) (by omega) (by omega) (by omega) (by omega) (by omega) (by omega), fI 62 30 (by omega) (by omega) (by omega) (by omega) (by omega) (by omega) (by omega) (by omega) (by omega) (by omega) (by omega) (by omega) (by omega), sc.2.2.2.1, sc.2.2.2.2.1, sc.2.2.2.2.2]
      exact ⟨sc.1, sc.2.1, sc.2.2.1, rfl, rfl, rfl⟩
    · intro i j hi
      rw [fC i j (by omega) (by omega) (by omega) (by omega) (by omega) (by omega) (by omega) (by omega)]
      rcases hi with ⟨rfl, rfl⟩ | rfl
      · rw [cU 47 3 (by omega) (by omega), x_wB_un2 sw _ w (by omega), a473]
      · exact cV 48 j (by omega) (by omega) (by omega) (by omega) (by omega)
    · rw [fI 49 q (by omega) (by omega) (by omega) (by omega) (by omega) (by omega) (by omega) (by omega) (by omega) (by omega) (by omega) (by omega) (by omega), fI 83 q (by omega) (by omega) (by omega) (by omega) (by omega) (by omega) (by omega) (by omega) (by omega) (by omega) (by omega) (by omega) (by omega)]
      exact z3 q hq
    · rw [f50, f84]; exact k84 q hq
