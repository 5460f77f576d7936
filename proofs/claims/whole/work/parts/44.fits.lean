def r_sh (p : Nat) : Int64 := Int32.toInt64 (nI p) &&& 63
def r_mk (m p : Nat) : Int64 := ((1 <<< r_sh m) - 1) <<< r_sh p
theorem r_mk_all : (List.range 41).all (fun p => (List.range 20).all (fun m => decide (r_mk (m + 1) p = (1 <<< r_sh p) ||| r_mk m (p + 1)))) = true := by decide +kernel
theorem r_mk_s {m p : Nat} (hm : m < 20) (hp : p < 41) : r_mk (m + 1) p = (1 <<< r_sh p) ||| r_mk m (p + 1) := of_decide_eq_true (List.all_eq_true.mp (List.all_eq_true.mp r_mk_all p (List.mem_range.mpr hp)) m (List.mem_range.mpr hm))
theorem r_mk0_all : (List.range 62).all (fun p => decide (r_mk 0 p = 0)) = true := by decide +kernel
theorem r_mk_0 {p : Nat} (hp : p < 62) : r_mk 0 p = 0 := of_decide_eq_true (List.all_eq_true.mp r_mk0_all p (List.mem_range.mpr hp))
theorem r_sh_all : (List.range 62).all (fun p => decide (((r_sh p).toBitVec.smod 64).toNat = p)) = true := by decide +kernel
theorem r_sh_n {p : Nat} (hp : p < 62) : ((r_sh p).toBitVec.smod 64).toNat = p := of_decide_eq_true (List.all_eq_true.mp r_sh_all p (List.mem_range.mpr hp))
theorem q_i64_or {F A B : Int64} : F &&& (A ||| B) = 0 ↔ F &&& A = 0 ∧ F &&& B = 0 := by
  rw [← Int64.toBitVec_inj, ← Int64.toBitVec_inj, ← Int64.toBitVec_inj, Int64.toBitVec_and, Int64.toBitVec_and, Int64.toBitVec_and, Int64.toBitVec_or, BitVec.and_or_distrib_left]
  exact BitVec.or_eq_zero_iff
theorem q_bit {x : BitVec 64} {n : Nat} (hn : n < 64) : x.sshiftRight n &&& 1#64 = 0#64 ↔ x &&& (1#64 <<< n) = 0#64 := by
  have h1 : x.sshiftRight n &&& 1#64 = 0#64 ↔ x.getLsbD n = false := by
    constructor
    · intro h
      have h2 := congrArg (fun z => BitVec.getLsbD z 0) h
      simp only [BitVec.getLsbD_and, BitVec.getLsbD_sshiftRight, BitVec.getLsbD_one, BitVec.getLsbD_zero] at h2
      simpa [hn] using h2
    · intro h
      apply BitVec.eq_of_getLsbD_eq
      intro i hi
      simp only [BitVec.getLsbD_and, BitVec.getLsbD_sshiftRight, BitVec.getLsbD_one, BitVec.getLsbD_zero]
      by_cases h0 : i = 0
      · subst h0
        rw [if_pos (show n + 0 < 64 by omega), Nat.add_zero, h]; rfl
      · simp [h0]
  have h2 : x &&& (1#64 <<< n) = 0#64 ↔ x.getLsbD n = false := by
    constructor
    · intro h
      have h2 := congrArg (fun z => BitVec.getLsbD z n) h
      simp only [BitVec.getLsbD_and, BitVec.getLsbD_shiftLeft, BitVec.getLsbD_one, BitVec.getLsbD_zero] at h2
      simpa [hn] using h2
    · intro h
      apply BitVec.eq_of_getLsbD_eq
      intro i hi
      simp only [BitVec.getLsbD_and, BitVec.getLsbD_shiftLeft, BitVec.getLsbD_one, BitVec.getLsbD_zero]
      by_cases h0 : i = n
      · subst h0
        rw [h]; rfl
      · have : ¬ (n ≤ i ∧ i - n = 0) := by omega
        by_cases h3 : i < n
        · simp [h3]
        · have : ¬ i - n = 0 := by omega
          simp [this]
  rw [h1, h2]
theorem r_bit {F : Int64} {p : Nat} (hp : p < 62) : (F >>> r_sh p) &&& 1 = 0 ↔ F &&& (1 <<< r_sh p) = 0 := by
  rw [← Int64.toBitVec_inj, ← Int64.toBitVec_inj, Int64.toBitVec_and, Int64.toBitVec_and, Int64.toBitVec_shiftRight, Int64.toBitVec_shiftLeft, BitVec.sshiftRight_eq', BitVec.shiftLeft_eq', r_sh_n hp]
  exact q_bit (by omega)
def r_free (F : Int64) : Nat → Nat → Bool
  | 0, _ => true
  | m + 1, p => cond (decide ((F >>> r_sh p) &&& 1 = 0)) (r_free F m (p + 1)) false
theorem r_free_ff {F : Int64} : ∀ (m p : Nat), m ≤ 20 → p + m ≤ 41 → r_free F m p = x_ff F (nI m) (nI p)
  | 0, p, _, h => by
    unfold r_free x_ff
    have e : F &&& r_mk 0 p = 0 := by rw [r_mk_0 (by omega)]; exact Int64.and_zero
    exact (decide_eq_true e).symm
  | m + 1, p, hm, h => by
    unfold r_free
    rw [r_free_ff m (p + 1) (by omega) (by omega)]
    show _ = decide (F &&& r_mk (m + 1) p = 0)
    have e1 : x_ff F (nI m) (nI (p + 1)) = decide (F &&& r_mk m (p + 1) = 0) := rfl
    rw [e1, r_mk_s (by omega) (by omega)]
    by_cases h1 : (F >>> r_sh p) &&& 1 = 0
    · rw [decide_eq_true h1]
      have h2 := (r_bit (by omega)).mp h1
      by_cases h3 : F &&& r_mk m (p + 1) = 0
      · rw [decide_eq_true h3, decide_eq_true (q_i64_or.mpr ⟨h2, h3⟩)]; rfl
      · rw [decide_eq_false h3, decide_eq_false (fun h => h3 (q_i64_or.mp h).2)]; rfl
    · rw [decide_eq_false h1, decide_eq_false (fun h => h1 ((r_bit (by omega)).mpr (q_i64_or.mp h).1))]; rfl
theorem r_ft0 {d : Nat} {sw : Bool} {gc : Nat} {I : Nat → Nat → Int32} {J : Nat → Nat → Int64} {k p l len : Nat} (hk : k < 8) (hL : I 82 k = nI l) (hl1 : 1 ≤ l) (hl : l ≤ 20) (hp : p ≤ 40) (hlen : len ≤ 40) {F : Int64} {i : Nat} (hi : i ≤ 100) : G d 131 (22, [some (.ref 62), some (.int (nI k)), some (.int (nI p)), some (.int (nI len)), some (.long F), none, some (.int 0), some (.int (nI i))], [], qS sw gc I J) (some (.int 0)) (qS sw gc I J) := by
  refine G_st (L := 89) (k := 5) (30, [some (.ref 62), some (.int (nI k)), some (.int (nI p)), some (.int (nI len)), some (.long F), none, some (.int 0), some (.int (nI i))], [.int (nI k), .ref 82, .int (nI p), .int (nI i)], qS sw gc I J) (q_hn _ _ _ _) rfl ?_
  refine G_iald (i := 82) (n := 8) rfl rfl (q_lt (by decide)) (vp_in_nI (by omega) (by decide)) ?_
  rw [q_clamp (n := k) (by omega)]
  refine G_st (L := 89) (k := 1) (32, [some (.ref 62), some (.int (nI k)), some (.int (nI p)), some (.int (nI len)), some (.long F), none, some (.int 0), some (.int (nI i))], [.int ((nI p) + (I 82 k)), .int (nI i)], qS sw gc I J) (q_hn _ _ _ _) rfl ?_
  rw [show (nI p) + (I 82 k) = nI (p + l) from (q_addP rfl hL)]
  refine G_icmp_ge 65 rfl rfl (fun h1 => ?_) (fun h1 => ?_)
  · skip
    refine G_st (L := 89) (k := 1) (67, [some (.ref 62), some (.int (nI k)), some (.int (nI p)), some (.int (nI len)), some (.long F), none, some (.int 0), some (.int (nI i))], [.int 0], qS sw gc I J) (q_hn _ _ _ _) rfl ?_
    exact G_iret rfl rfl rfl rfl
  · skip
    refine G_st (L := 89) (k := 1) (37, [some (.ref 62), some (.int (nI k)), some (.int (nI p)), some (.int (nI len)), some (.long F), none, some (.int 0), some (.int (nI i))], [.int 0], qS sw gc I J) (q_hn _ _ _ _) rfl ?_
    refine G_if_eq 65 rfl rfl (fun _ => ?_) (fun h9 => absurd h9 (by decide))
    refine G_st (L := 89) (k := 1) (67, [some (.ref 62), some (.int (nI k)), some (.int (nI p)), some (.int (nI len)), some (.long F), none, some (.int 0), some (.int (nI i))], [.int 0], qS sw gc I J) (q_hn _ _ _ _) rfl ?_
    exact G_iret rfl rfl rfl rfl
theorem r_ft_loop {d : Nat} {sw : Bool} {gc : Nat} {I : Nat → Nat → Int32} {J : Nat → Nat → Int64} {k p l len : Nat} (hk : k < 8) (hL : I 82 k = nI l) (hl1 : 1 ≤ l) (hl : l ≤ 20) (hp : p ≤ 40) (hlen : len ≤ 40) {F : Int64} (hpl : p + l ≤ len) : ∀ (m i : Nat), i + m = p + l → G d 131 (22, [some (.ref 62), some (.int (nI k)), some (.int (nI p)), some (.int (nI len)), some (.long F), none, some (.int 1), some (.int (nI i))], [], qS sw gc I J) (some (.int (q_b (r_free F m i)))) (qS sw gc I J) := by
  intro m
  induction m with
  | zero =>
    intro i h
    obtain rfl : i = p + l := by omega
    refine G_st (L := 89) (k := 5) (30, [some (.ref 62), some (.int (nI k)), some (.int (nI p)), some (.int (nI len)), some (.long F), none, some (.int 1), some (.int (nI (p + l)))], [.int (nI k), .ref 82, .int (nI p), .int (nI (p + l))], qS sw gc I J) (q_hn _ _ _ _) rfl ?_
    refine G_iald (i := 82) (n := 8) rfl rfl (q_lt (by decide)) (vp_in_nI (by omega) (by decide)) ?_
    rw [q_clamp (n := k) (by omega)]
    refine G_st (L := 89) (k := 1) (32, [some (.ref 62), some (.int (nI k)), some (.int (nI p)), some (.int (nI len)), some (.long F), none, some (.int 1), some (.int (nI (p + l)))], [.int ((nI p) + (I 82 k)), .int (nI (p + l))], qS sw gc I J) (q_hn _ _ _ _) rfl ?_
    rw [show (nI p) + (I 82 k) = nI (p + l) from (q_addP rfl hL)]
    refine G_icmp_ge 65 rfl rfl (fun _ => ?_) (fun h9 => absurd (nI_le (Nat.le_refl _) (by omega)) h9)
    refine G_st (L := 89) (k := 1) (67, [some (.ref 62), some (.int (nI k)), some (.int (nI p)), some (.int (nI len)), some (.long F), none, some (.int 1), some (.int (nI (p + l)))], [.int 1], qS sw gc I J) (q_hn _ _ _ _) rfl ?_
    exact G_iret rfl rfl rfl rfl
  | succ m ih =>
    intro i h
    by_cases hc : (F >>> r_sh i) &&& 1 = 0
    · rw [show r_free F (m + 1) i = r_free F m (i + 1) by rw [r_free, decide_eq_true hc]; rfl]
      refine G_st (L := 89) (k := 5) (30, [some (.ref 62), some (.int (nI k)), some (.int (nI p)), some (.int (nI len)), some (.long F), none, some (.int 1), some (.int (nI i))], [.int (nI k), .ref 82, .int (nI p), .int (nI i)], qS sw gc I J) (q_hn _ _ _ _) rfl ?_
      refine G_iald (i := 82) (n := 8) rfl rfl (q_lt (by decide)) (vp_in_nI (by omega) (by decide)) ?_
      rw [q_clamp (n := k) (by omega)]
      refine G_st (L := 89) (k := 1) (32, [some (.ref 62), some (.int (nI k)), some (.int (nI p)), some (.int (nI len)), some (.long F), none, some (.int 1), some (.int (nI i))], [.int ((nI p) + (I 82 k)), .int (nI i)], qS sw gc I J) (q_hn _ _ _ _) rfl ?_
      rw [show (nI p) + (I 82 k) = nI (p + l) from (q_addP rfl hL)]
      refine G_icmp_ge 65 rfl rfl (fun h9 => absurd h9 (nI_ge (by omega) (by omega))) (fun _ => ?_)
      refine G_st (L := 89) (k := 1) (37, [some (.ref 62), some (.int (nI k)), some (.int (nI p)), some (.int (nI len)), some (.long F), none, some (.int 1), some (.int (nI i))], [.int 1], qS sw gc I J) (q_hn _ _ _ _) rfl ?_
      refine G_if_eq 65 rfl rfl (fun h9 => absurd h9 (by decide)) (fun _ => ?_)
      refine G_st (L := 89) (k := 7) (49, [some (.ref 62), some (.int (nI k)), some (.int (nI p)), some (.int (nI len)), some (.long F), none, some (.int 1), some (.int (nI i))], [.int (lg_cmp ((F >>> (Int32.toInt64 (nI i) &&& 63)) &&& 1) 0)], qS sw gc I J) (q_hn _ _ _ _) rfl ?_
      refine G_if_ne 56 rfl rfl (fun h9 => absurd ((q_cmp_eq _ _).mpr hc) h9) (fun _ => ?_)
      refine G_st (L := 89) (k := 5) (22, [some (.ref 62), some (.int (nI k)), some (.int (nI p)), some (.int (nI len)), some (.long F), none, some (.int 1), some (.int ((nI i) + 1))], [], qS sw gc I J) (q_hn _ _ _ _) rfl ?_
      rw [show (nI i) + 1 = nI (i + 1) from (q_addP rfl rfl)]
      exact ih (i + 1) (by omega)
    · rw [show r_free F (m + 1) i = false by rw [r_free, decide_eq_false hc]; rfl]
      refine G_st (L := 89) (k := 5) (30, [some (.ref 62), some (.int (nI k)), some (.int (nI p)), some (.int (nI len)), some (.long F), none, some (.int 1), some (.int (nI i))], [.int (nI k), .ref 82, .int (nI p), .int (nI i)], qS sw gc I J) (q_hn _ _ _ _) rfl ?_
      refine G_iald (i := 82) (n := 8) rfl rfl (q_lt (by decide)) (vp_in_nI (by omega) (by decide)) ?_
      rw [q_clamp (n := k) (by omega)]
      refine G_st (L := 89) (k := 1) (32, [some (.ref 62), some (.int (nI k)), some (.int (nI p)), some (.int (nI len)), some (.long F), none, some (.int 1), some (.int (nI i))], [.int ((nI p) + (I 82 k)), .int (nI i)], qS sw gc I J) (q_hn _ _ _ _) rfl ?_
      rw [show (nI p) + (I 82 k) = nI (p + l) from (q_addP rfl hL)]
      refine G_icmp_ge 65 rfl rfl (fun h9 => absurd h9 (nI_ge (by omega) (by omega))) (fun _ => ?_)
      refine G_st (L := 89) (k := 1) (37, [some (.ref 62), some (.int (nI k)), some (.int (nI p)), some (.int (nI len)), some (.long F), none, some (.int 1), some (.int (nI i))], [.int 1], qS sw gc I J) (q_hn _ _ _ _) rfl ?_
      refine G_if_eq 65 rfl rfl (fun h9 => absurd h9 (by decide)) (fun _ => ?_)
      refine G_st (L := 89) (k := 7) (49, [some (.ref 62), some (.int (nI k)), some (.int (nI p)), some (.int (nI len)), some (.long F), none, some (.int 1), some (.int (nI i))], [.int (lg_cmp ((F >>> (Int32.toInt64 (nI i) &&& 63)) &&& 1) 0)], qS sw gc I J) (q_hn _ _ _ _) rfl ?_
      refine G_if_ne 56 rfl rfl (fun _ => ?_) (fun h9 => absurd h9 (fun e9 => hc ((q_cmp_eq _ _).mp e9)))
      refine G_st (L := 89) (k := 4) (22, [some (.ref 62), some (.int (nI k)), some (.int (nI p)), some (.int (nI len)), some (.long F), none, some (.int 0), some (.int ((nI i) + 1))], [], qS sw gc I J) (q_hn _ _ _ _) rfl ?_
      rw [show (nI i) + 1 = nI (i + 1) from (q_addP rfl rfl)]
      exact r_ft0 hk hL hl1 hl hp hlen (by omega)
def y_fit (F : Int64) (len p l : Nat) : Bool := decide (p + l ≤ len) && x_ff F (nI l) (nI p)
theorem r_fits {d : Nat} {sw : Bool} {gc : Nat} {I : Nat → Nat → Int32} {J : Nat → Nat → Int64} {k p l len : Nat} (hk : k < 8) (hL : I 82 k = nI l) (hl1 : 1 ≤ l) (hl : l ≤ 20) (hp : p ≤ 40) (hlen : len ≤ 40) {F : Int64} : GM d 131 [.ref 62, .int (nI k), .int (nI p), .int (nI len), .long F] (qS sw gc I J) (some (.int (q_b (y_fit F len p l)))) (qS sw gc I J) := by
  refine GM_of (by decide) (Nat.le_refl _) (Nat.le_of_ble_eq_true rfl) q_bn ?_
  by_cases h : p + l ≤ len
  · rw [show y_fit F len p l = r_free F l p by rw [y_fit, decide_eq_true h, r_free_ff l p hl (by omega)]; rfl]
    refine G_st (L := 89) (k := 4) (6, [some (.ref 62), some (.int (nI k)), some (.int (nI p)), some (.int (nI len)), some (.long F), none, none, none], [.int (nI k), .ref 82, .int (nI p)], qS sw gc I J) (q_hn _ _ _ _) rfl ?_
    refine G_iald (i := 82) (n := 8) rfl rfl (q_lt (by decide)) (vp_in_nI (by omega) (by decide)) ?_
    rw [q_clamp (n := k) (by omega)]
    refine G_st (L := 89) (k := 2) (9, [some (.ref 62), some (.int (nI k)), some (.int (nI p)), some (.int (nI len)), some (.long F), none, none, none], [.int (nI len), .int ((nI p) + (I 82 k))], qS sw gc I J) (q_hn _ _ _ _) rfl ?_
    rw [show (nI p) + (I 82 k) = nI (p + l) from (q_addP rfl hL)]
    refine G_icmp_gt 16 rfl rfl (fun h9 => absurd h9 (nI_nlt (by omega) (by omega))) (fun _ => ?_)
    refine G_st (L := 89) (k := 5) (22, [some (.ref 62), some (.int (nI k)), some (.int (nI p)), some (.int (nI len)), some (.long F), none, some (.int 1), some (.int (nI p))], [], qS sw gc I J) (q_hn _ _ _ _) rfl ?_
    exact r_ft_loop hk hL hl1 hl hp hlen h l p rfl
  · rw [show y_fit F len p l = false by rw [y_fit, decide_eq_false h]; rfl]
    refine G_st (L := 89) (k := 4) (6, [some (.ref 62), some (.int (nI k)), some (.int (nI p)), some (.int (nI len)), some (.long F), none, none, none], [.int (nI k), .ref 82, .int (nI p)], qS sw gc I J) (q_hn _ _ _ _) rfl ?_
    refine G_iald (i := 82) (n := 8) rfl rfl (q_lt (by decide)) (vp_in_nI (by omega) (by decide)) ?_
    rw [q_clamp (n := k) (by omega)]
    refine G_st (L := 89) (k := 2) (9, [some (.ref 62), some (.int (nI k)), some (.int (nI p)), some (.int (nI len)), some (.long F), none, none, none], [.int (nI len), .int ((nI p) + (I 82 k))], qS sw gc I J) (q_hn _ _ _ _) rfl ?_
    rw [show (nI p) + (I 82 k) = nI (p + l) from (q_addP rfl hL)]
    refine G_icmp_gt 16 rfl rfl (fun _ => ?_) (fun h9 => absurd (nI_lt (by omega) (by omega)) h9)
    refine G_st (L := 89) (k := 4) (22, [some (.ref 62), some (.int (nI k)), some (.int (nI p)), some (.int (nI len)), some (.long F), none, some (.int 0), some (.int (nI p))], [], qS sw gc I J) (q_hn _ _ _ _) rfl ?_
    exact r_ft0 hk hL hl1 hl hp hlen (by omega)
