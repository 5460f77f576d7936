/-! ===== blocks ===== -/
theorem q_ushr {x : BitVec 64} {n : Nat} (hn : n < 64) : x >>> n = 0#64 ↔ x.sshiftRight n = 0#64 := by
  constructor
  · intro h
    have hb : ∀ i, x.getLsbD (n + i) = false := by
      intro i
      have h2 := congrArg (fun z => BitVec.getLsbD z i) h
      simp only [BitVec.getLsbD_ushiftRight, BitVec.getLsbD_zero] at h2
      exact h2
    apply BitVec.eq_of_getLsbD_eq
    intro i hi
    rw [BitVec.getLsbD_sshiftRight, BitVec.getLsbD_zero]
    by_cases h1 : n + i < 64
    · rw [if_pos h1, hb i, Bool.and_false]
    · rw [if_neg h1]
      have h3 : x.msb = false := by
        rw [BitVec.msb_eq_getLsbD_last]
        have h4 := hb (63 - n)
        rw [show n + (63 - n) = 64 - 1 by omega] at h4
        exact h4
      rw [h3, Bool.and_false]
  · intro h
    apply BitVec.eq_of_getLsbD_eq
    intro i hi
    rw [BitVec.getLsbD_ushiftRight, BitVec.getLsbD_zero]
    by_cases h1 : n + i < 64
    · have h2 := congrArg (fun z => BitVec.getLsbD z i) h
      simp only [BitVec.getLsbD_sshiftRight, BitVec.getLsbD_zero] at h2
      rw [if_pos h1, decide_eq_false (show ¬ 64 ≤ i by omega)] at h2
      exact h2
    · exact BitVec.getLsbD_of_ge x (n + i) (by omega)
theorem q_blk_all : (List.range 41).all (fun m => decide ((((Int32.toInt64 (Int64.toInt32 (lN m))).toUInt64 &&& Int64.toUInt64 63).toBitVec % 64).toNat = m ∧ ((Int32.toInt64 (Int64.toInt32 (lN m)) &&& 63).toBitVec.smod 64).toNat = m)) = true := by decide +kernel
theorem q_ixl (x : Int64) : (∃ j : Nat, 1 ≤ j ∧ j ≤ 40 ∧ x = lN j) ∨ (x < 1 ∨ 40 < x) := by
  by_cases h1 : x < 1
  · exact Or.inr (Or.inl h1)
  · by_cases h2 : 40 < x
    · exact Or.inr (Or.inr h2)
    · left
      rw [Int64.lt_iff_toInt_lt, show (1 : Int64).toInt = 1 from rfl] at h1
      rw [Int64.lt_iff_toInt_lt, show (40 : Int64).toInt = 40 from rfl] at h2
      refine ⟨x.toInt.toNat, by omega, by omega, ?_⟩
      rw [← Int64.toInt_inj, lN_toInt (by omega)]
      omega
theorem s_block (a b : Int64) : f_isBlock a b = f_r_isBlock a b := by
  unfold f_isBlock f_r_isBlock f_in
  rcases q_ixl a with ⟨j, h1, h2, rfl⟩ | h
  · have c1 : ¬ lg_cmp (lN j) 1 < 0 := by rw [q_cmp_lt, show (1 : Int64) = lN 1 from rfl, lN_lt (by omega) (by decide)]; omega
    have c2 : ¬ 0 < lg_cmp (lN j) 40 := by rw [q_cmp_gt, show (40 : Int64) = lN 40 from rfl, lN_lt (by decide) (by omega)]; omega
    rw [if_neg c1, if_neg c2, if_neg c1, if_neg c2, if_neg (show ¬ (1 : Int32) = 0 by decide)]
    have h := of_decide_eq_true (List.all_eq_true.mp q_blk_all j (List.mem_range.mpr (by omega)))
    have e : lg_cmp ((Int64.toUInt64 b >>> ((Int32.toInt64 (Int64.toInt32 (lN j))).toUInt64 &&& Int64.toUInt64 63)).toInt64) 0 = 0 ↔ lg_cmp (b >>> (Int32.toInt64 (Int64.toInt32 (lN j)) &&& 63)) 0 = 0 := by
      rw [q_cmp_eq, q_cmp_eq, ← Int64.toBitVec_inj, ← Int64.toBitVec_inj, Int64.toBitVec_shiftRight, BitVec.sshiftRight_eq', h.2]
      show b.toBitVec >>> (((Int32.toInt64 (Int64.toInt32 (lN j))).toUInt64 &&& Int64.toUInt64 63).toBitVec % 64) = 0#64 ↔ _
      rw [BitVec.ushiftRight_eq', h.1]
      exact q_ushr (by omega)
    by_cases h3 : lg_cmp ((Int64.toUInt64 b >>> ((Int32.toInt64 (Int64.toInt32 (lN j))).toUInt64 &&& Int64.toUInt64 63)).toInt64) 0 = 0
    · rw [if_pos h3, if_pos (e.mp h3)]
    · rw [if_neg h3, if_neg (fun h4 => h3 (e.mpr h4))]
  · rcases h with h | h
    · have c1 : lg_cmp a 1 < 0 := (q_cmp_lt _ _).mpr h
      rw [if_pos c1, if_pos c1, if_pos rfl]
    · have c2 : 0 < lg_cmp a 40 := (q_cmp_gt _ _).mpr h
      by_cases c1 : lg_cmp a 1 < 0
      · rw [if_pos c1, if_pos c1, if_pos rfl]
      · rw [if_neg c1, if_pos c2, if_neg c1, if_pos c2, if_pos rfl]
theorem s_block01 (a b : Int64) : f_isBlock a b = 1 ∨ f_isBlock a b = 0 := by
  unfold f_isBlock
  repeat (first | exact Or.inl rfl | exact Or.inr rfl | split)
theorem s_block1 {a b : Int64} (h : f_isBlock a b = 1) : ∃ j, 1 ≤ j ∧ j ≤ 40 ∧ a = lN j := by
  rcases q_ixl a with h1 | h1
  · exact h1
  · exfalso
    unfold f_isBlock at h
    rcases h1 with h1 | h1
    · rw [if_pos ((q_cmp_lt _ _).mpr h1)] at h; exact absurd h (by decide)
    · by_cases c1 : lg_cmp a 1 < 0
      · rw [if_pos c1] at h; exact absurd h (by decide)
      · rw [if_neg c1, if_pos ((q_cmp_gt _ _).mpr h1)] at h; exact absurd h (by decide)
theorem s_len {x : Int32} {j : Nat} (h : Int32.toInt64 x = lN j) (hj : j ≤ 40) : x = nI j := by
  rw [q_eq_int, nI_toInt (by omega), ← Int32.toInt_toInt64, h, lN_toInt (by omega)]
/-! ===== the most that a block is worth ===== -/
def s_sp (I : Nat → Nat → Int32) (n : Nat) (L P : Nat → Nat) : Prop := ∀ k, k < n → I 48 k = nI (L k) ∧ I 49 k = nI (P k)
theorem s_mw {I : Nat → Nat → Int32} {n : Nat} {L P b : Nat → Nat} {len p k : Nat} {F : Int64} (hs : s_sp I n L P) (hlp : y_lp n L P) (hk : k < n) (hlen : len ≤ 40) (hp : p < len) (hr : ∀ q, p < q → q ≤ len → I 51 q = nI (b q)) : x_mw I L len F p k = cond (y_fit F len p (L k)) (nI (P k + b (p + L k))) (-4) := by
  obtain ⟨h1, h2⟩ := hs k hk
  obtain ⟨l1, l2, l3⟩ := hlp k hk
  unfold x_mw y_fit
  by_cases h : p + L k ≤ len
  · rw [if_pos (nI_le (by omega) (by omega)), decide_eq_true h, h1, h2, hr (p + L k) (by omega) h, show nI (P k) + nI (b (p + L k)) = nI (P k + b (p + L k)) from q_addP rfl rfl]; rfl
  · rw [if_neg (nI_ge (by omega) (by omega)), decide_eq_false h]; rfl
theorem s_st {L P b : Nat → Nat} {F : Int64} {len p n k a : Nat} (hlp : y_lp n L P) (hb : y_ok b len (p + 1)) (hk : k < n) (hlen : len ≤ 40) (hp : p < len) (ha : a ≤ 200 * (len - p)) : f_jmax (nI a) (cond (y_fit F len p (L k)) (nI (P k + b (p + L k))) (-4)) = nI (y_st L P b F len p k a) := by
  obtain ⟨l1, l2, l3⟩ := hlp k hk
  unfold f_jmax y_st
  cases hf : y_fit F len p (L k) with
  | false =>
    show (if nI a < (-4 : Int32) then (-4 : Int32) else nI a) = nI a
    exact if_neg (q_nltN (by decide) (by omega))
  | true =>
    have h1 := y_fit_le hf
    have h2 := hb (p + L k) (by omega) h1
    show (if nI a < nI (P k + b (p + L k)) then nI (P k + b (p + L k)) else nI a) = nI (if P k + b (p + L k) ≤ a then a else P k + b (p + L k))
    by_cases h3 : P k + b (p + L k) ≤ a
    · rw [if_pos h3, if_neg (nI_nlt h3 (by omega))]
    · rw [if_neg h3, if_pos (nI_lt (by omega) (by omega))]
theorem s_inN {I : Nat → Nat → Int32} {n : Nat} {L P b : Nat → Nat} {len p : Nat} {F : Int64} (hs : s_sp I n L P) (hlp : y_lp n L P) (hlen : len ≤ 40) (hp : p < len) (hr : ∀ q, p < q → q ≤ len → I 51 q = nI (b q)) (hb : y_ok b len (p + 1)) : ∀ (m k a : Nat), k + m ≤ n → a ≤ 200 * (len - p) → x_inN I L len F p m k (nI a) = nI (y_in L P b F len p m k a)
  | 0, _, _, _, _ => rfl
  | m + 1, k, a, h, ha => by
    unfold x_inN y_in
    rw [s_mw hs hlp (by omega) hlen hp hr, s_st hlp hb (by omega) hlen hp ha]
    exact s_inN hs hlp hlen hp hr hb m (k + 1) _ (by omega) (y_st_le hlp hb (by omega) hp ha)
theorem s_out {n : Nat} {L P : Nat → Nat} {len : Nat} {F : Int64} (hlp : y_lp n L P) (hlen : len ≤ 40) : ∀ (p : Nat) (I : Nat → Nat → Int32) (b : Nat → Nat), s_sp I n L P → p ≤ len → (∀ q, p ≤ q → q ≤ len → I 51 q = nI (b q)) → y_ok b len p → ∀ q, q ≤ len → x_out L n len F p I 51 q = nI (y_out L P n F len p b q)
  | 0, _, _, _, _, hr, _, q, hq => hr q (Nat.zero_le _) hq
  | p + 1, I, b, hs, hp, hr, hb, q, hq => by
    unfold x_out y_out
    have h1 := hb (p + 1) (Nat.le_refl _) hp
    rw [hr (p + 1) (Nat.le_refl _) hp, s_inN hs hlp hlen hp (fun q h1 h2 => hr q h1 h2) hb n 0 (b (p + 1)) (by omega) (by omega)]
    refine s_out hlp hlen p _ _ (fun k hk => ?_) (by omega) (fun q h2 h3 => ?_) (y_ok_s hlp hb hp) q hq
    · rw [q_un _ _ (by omega), q_un _ _ (by omega)]; exact hs k hk
    · by_cases e : q = p
      · subst e; rw [q_us, if_pos rfl]
      · rw [q_un _ _ (by omega), if_neg e]; exact hr q (by omega) h3
theorem s_mo {I : Nat → Nat → Int32} {n : Nat} {L P : Nat → Nat} {len : Nat} {F : Int64} (hs : s_sp I n L P) (hlp : y_lp n L P) (hlen : len ≤ 40) {q : Nat} (hq : q ≤ len) : x_mo I L n len F 51 q = nI (y_dp L P n F len q) := by
  unfold x_mo y_dp
  refine s_out hlp hlen len _ _ (fun k hk => ?_) (Nat.le_refl _) (fun q h1 h2 => ?_) (fun _ _ _ => Nat.zero_le _) q hq
  · rw [q_un _ _ (by omega), q_un _ _ (by omega)]; exact hs k hk
  · obtain rfl : q = len := by omega
    rw [q_us]; rfl
theorem s_pkN {I : Nat → Nat → Int32} {n : Nat} {L P b : Nat → Nat} {len p : Nat} {F : Int64} (hs : s_sp I n L P) (hlp : y_lp n L P) (hlen : len ≤ 40) (hp : p < len) (hr : ∀ q, q ≤ len → I 51 q = nI (b q)) (hb : y_ok b len 0) : ∀ (m k : Nat), k + m ≤ n → x_pkN I L len F p m k = y_pkN L P b F len p m k
  | 0, _, _ => rfl
  | m + 1, k, h => by
    unfold x_pkN y_pkN y_p1
    rw [s_mw hs hlp (by omega) hlen hp (fun q _ h2 => hr q h2), hr p (by omega), s_pkN hs hlp hlen hp hr hb m (k + 1) (by omega)]
    have h1 := hb p (Nat.zero_le _) (by omega)
    cases hf : y_fit F len p (L k) with
    | false =>
      show (if (-4 : Int32) = nI (b p) then some k else y_pkN L P b F len p m (k + 1)) = y_pkN L P b F len p m (k + 1)
      exact if_neg (fun e => absurd e.symm (q_neN (by decide) (by omega)))
    | true =>
      obtain ⟨l1, l2, l3⟩ := hlp k (by omega)
      have h2 := y_fit_le hf
      have h3 := hb (p + L k) (Nat.zero_le _) h2
      show (if nI (P k + b (p + L k)) = nI (b p) then some k else y_pkN L P b F len p m (k + 1)) = _
      by_cases h4 : P k + b (p + L k) = b p
      · rw [if_pos (congrArg nI h4), decide_eq_true h4]; rfl
      · rw [if_neg (fun e => h4 ((nI_eq (by omega) (by omega)).mp e)), decide_eq_false h4]; rfl
theorem s_pk {I : Nat → Nat → Int32} {n : Nat} {L P : Nat → Nat} {len p : Nat} {F : Int64} (hs : s_sp I n L P) (hlp : y_lp n L P) (hlen : len ≤ 40) (hp : p < len) : x_pk (x_mo I L n len F) L n len F p = y_pk L P n F len p := by
  unfold x_pk y_pk
  refine s_pkN (fun k hk => ?_) hlp hlen hp (fun q hq => s_mo hs hlp hlen hq) (y_dp_ok hlp) n 0 (by omega)
  rw [x_mo_un (by decide), x_mo_un (by decide)]; exact hs k hk
theorem q_psl_c {f g : Nat → Option Nat} {L : Nat → Nat} {len : Nat} (h : ∀ p, p < len → f p = g p) : ∀ (m p : Nat), q_psl f L len m p = q_psl g L len m p
  | 0, _ => rfl
  | m + 1, p => by
    unfold q_psl
    by_cases hp : p < len
    · rw [if_pos hp, if_pos hp, h p hp, q_psl_c h m]
    · rw [if_neg hp, if_neg hp]
theorem s_pcs {I : Nat → Nat → Int32} {n : Nat} {L P : Nat → Nat} {len : Nat} {F : Int64} (hs : s_sp I n L P) (hlp : y_lp n L P) (hlen : len ≤ 40) : x_pcs I L n len F = y_ps L P n F len := q_psl_c (fun p hp => s_pk hs hlp hlen hp) len 0
theorem s_sps {I : Nat → Nat → Int32} {n : Nat} {L P : Nat → Nat} (h1 : x_Sz I n L) (h2 : r_Sz I n L P) (h3 : ∀ k, k < n → I 49 k = I 83 k) : s_sp I n L P := fun k hk => ⟨(h1.2.2 k hk).1, (h3 k hk).trans (h2.2.2 k hk).2.2.2.1⟩
theorem s_most (x : Int32) (F : Int64) : s_Stp 83 134 [.int x, .long F] := by
  intro d sw gc I J h
  rcases s_block01 (Int32.toInt64 x) F with hb | hb
  · obtain ⟨len, l1, l2, e⟩ := s_block1 hb
    obtain rfl := s_len e l2
    rw [e] at hb
    obtain ⟨n, L, P, z1, z2, z3, z4⟩ := h.2.2.2.2.2.2.2.1
    have hs := s_sps z1 z2 z3
    have X := x_most (d := d + 9) (sw := sw) (gc := gc) (J := J) z1 l2 l1 hb
    rw [s_mo hs z2.lp l2 (Nat.zero_le _)] at X
    have R := r_most (d := d + 10) (sw := sw) (gc := gc) (J := J) (I := x_mo I L n len F) (r_Sz_c z2 (fun i j hi => x_mo_un (by omega))) l2 l1 (s_block _ _ ▸ hb)
    refine ⟨_, sw, gc, _, J, _, J, Nat.le_refl _, X, R, s_Rel_c h (fun i j hi => ?_) (fun _ _ _ => rfl)⟩
    unfold s_scr at hi
    rw [r_mo_un (by omega), x_mo_un (by omega)]
  · exact s_keep h (x_mostB (d := d + 9) hb) (r_mostB (d := d + 10) (s_block _ _ ▸ hb))
theorem s_split (x : Int32) (F : Int64) (i : Int32) : s_Stp 84 135 [.int x, .long F, .int i] := by
  intro d sw gc I J h
  by_cases hi : i < 0
  · exact s_keep h (x_splitI (d := d + 8) hi) (r_splitI (d := d + 10) hi)
  · rcases s_block01 (Int32.toInt64 x) F with hb | hb
    · obtain ⟨len, l1, l2, e⟩ := s_block1 hb
      obtain rfl := s_len e l2
      rw [e] at hb
      obtain ⟨n, L, P, z1, z2, z3, z4⟩ := h.2.2.2.2.2.2.2.1
      have hs := s_sps z1 z2 z3
      obtain ⟨j, hj, rfl⟩ : ∃ j, j < 2 ^ 31 ∧ i = nI j := by
        rw [q_lt_int, show (0 : Int32).toInt = 0 from rfl] at hi
        have := Int32.toInt_lt i
        refine ⟨i.toInt.toNat, by omega, ?_⟩
        rw [q_eq_int, nI_toInt (by omega)]
        omega
      have hps := s_pcs (F := F) hs z2.lp l2
      have h6 := x_ctI_6 (I := I) (L := L) (n := n) (len := len) (F := F)
      have hlen := x_pcs_len (I := I) (L := L) (n := n) (len := len) (F := F)
      have R := r_split (d := d + 10) (sw := sw) (gc := gc) (J := J) (I := x_ctI I L n len F) (r_Sz_c z2 (fun i j hi => x_ctI_un (by omega))) l2 l1 (s_block _ _ ▸ hb) hj
      have hRel : s_Rel sw gc (r_mo (x_ctI I L n len F) L P n len F) J := by
        refine s_Rel_c h (fun i j hi => ?_) (fun _ _ _ => rfl)
        unfold s_scr at hi
        rw [r_mo_un (by omega), x_ctI_un (by omega)]
      by_cases hc : j < (x_pcs I L n len F).length
      · have X := x_split (d := d + 8) (sw := sw) (gc := gc) (J := J) z1 l2 l1 hb hj h6 (by omega) hc
        have e1 : (x_pcs I L n len F)[j]? = some ((x_pcs I L n len F)[j]'hc) := List.getElem?_eq_getElem hc
        rw [x_ctI_52 e1] at X
        have e2 : y_nth (y_ps L P n F len) j = x_pv ((x_pcs I L n len F)[j]'hc) := by
          unfold y_nth
          rw [← hps, e1]
        rw [e2] at R
        exact ⟨_, sw, gc, _, J, _, J, Nat.le_refl _, X, R, hRel⟩
      · have X := x_splitN (d := d + 8) (sw := sw) (gc := gc) (J := J) z1 l2 l1 hb (x := nI j) (nI_pos hj) h6 (nI_le (by omega) hj)
        have e2 : y_nth (y_ps L P n F len) j = -4 := by
          unfold y_nth
          rw [← hps, List.getElem?_eq_none (by omega)]
        rw [e2] at R
        exact ⟨_, sw, gc, _, J, _, J, Nat.le_refl _, X, R, hRel⟩
    · exact s_keep h (x_splitB (d := d + 8) hb) (r_splitB (d := d + 10) (s_block _ _ ▸ hb))
