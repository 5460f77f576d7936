def x_pv (o : Option Nat) : Int32 := match o with
  | none => -5
  | some k => nI k
def x_pkN (I : Nat → Nat → Int32) (L : Nat → Nat) (len : Nat) (F : Int64) (p : Nat) : Nat → Nat → Option Nat
  | 0, _ => none
  | m + 1, k => if x_mw I L len F p k = I 51 p then some k else x_pkN I L len F p m (k + 1)
def x_pk (I : Nat → Nat → Int32) (L : Nat → Nat) (n len : Nat) (F : Int64) (p : Nat) : Option Nat := x_pkN I L len F p n 0
theorem x_pkN_lt {I : Nat → Nat → Int32} {L : Nat → Nat} {len : Nat} {F : Int64} {p : Nat} : ∀ (m k j : Nat), x_pkN I L len F p m k = some j → j < k + m
  | 0, k, j, h => by cases h
  | m + 1, k, j, h => by
    unfold x_pkN at h
    split at h
    · cases h; omega
    · have := x_pkN_lt m (k + 1) j h; omega
theorem x_pk_lt {I : Nat → Nat → Int32} {L : Nat → Nat} {n len : Nat} {F : Int64} {p j : Nat} (h : x_pk I L n len F p = some j) : j < n := by
  have := x_pkN_lt n 0 j h; omega
theorem x_mw_upd {I : Nat → Nat → Int32} {L : Nat → Nat} {len : Nat} {F : Int64} {p k r b : Nat} {v : Int32} (h : r ≠ 48 ∧ r ≠ 49 ∧ r ≠ 51) : x_mw (q_u I r b v) L len F p k = x_mw I L len F p k := by
  unfold x_mw
  rw [q_un _ _ (by omega), q_un _ _ (by omega), q_un _ _ (by omega)]
theorem x_pkN_upd {I : Nat → Nat → Int32} {L : Nat → Nat} {len : Nat} {F : Int64} {p r b : Nat} {v : Int32} (h : r ≠ 48 ∧ r ≠ 49 ∧ r ≠ 51) : ∀ (m k : Nat), x_pkN (q_u I r b v) L len F p m k = x_pkN I L len F p m k
  | 0, k => rfl
  | m + 1, k => by
    unfold x_pkN
    rw [x_mw_upd h, q_un _ _ (by omega), x_pkN_upd h m (k + 1)]
theorem x_pk_upd {I : Nat → Nat → Int32} {L : Nat → Nat} {n len : Nat} {F : Int64} {p r b : Nat} {v : Int32} (h : r ≠ 48 ∧ r ≠ 49 ∧ r ≠ 51) : x_pk (q_u I r b v) L n len F p = x_pk I L n len F p := x_pkN_upd h n 0
theorem x_pf_loop {d : Nat} {sw : Bool} {gc : Nat} {I : Nat → Nat → Int32} {J : Nat → Nat → Int64} {n : Nat} {L : Nat → Nat} (hz : x_Sz I n L) {len p : Nat} {F : Int64} (hl : len ≤ 40) (hp : p < len) : ∀ (m k : Nat), k + m = n → G (d + 2) 50 (16, [some (.ref 47), some (.int (nI p)), some (.int (nI len)), some (.long F), none, some (.int (nI k))], [], qS sw gc I J) (some (.int (x_pv (x_pkN I L len F p m k)))) (qS sw gc I J) := by
  have h8 := hz.2.1
  intro m
  induction m with
  | zero =>
    intro k h
    obtain rfl : k = n := by omega
    refine G_st (L := 89) (k := 3) (22, [some (.ref 47), some (.int (nI p)), some (.int (nI len)), some (.long F), none, some (.int (nI k))], [.int (I 47 3), .int (nI k)], qS sw gc I J) (q_hn _ _ _ _) rfl ?_
    rw [show I 47 3 = nI k from hz.1]
    refine G_icmp_ge 52 rfl rfl (fun _ => ?_) (fun h9 => absurd (nI_le (Nat.le_refl _) (by omega)) h9)
    refine G_st (L := 89) (k := 1) (54, [some (.ref 47), some (.int (nI p)), some (.int (nI len)), some (.long F), none, some (.int (nI k))], [.int (-5)], qS sw gc I J) (q_hn _ _ _ _) rfl ?_
    exact G_iret rfl rfl rfl rfl
  | succ m ih =>
    intro k h
    refine G_st (L := 89) (k := 3) (22, [some (.ref 47), some (.int (nI p)), some (.int (nI len)), some (.long F), none, some (.int (nI k))], [.int (I 47 3), .int (nI k)], qS sw gc I J) (q_hn _ _ _ _) rfl ?_
    rw [show I 47 3 = nI n from hz.1]
    refine G_icmp_ge 52 rfl rfl (fun h9 => absurd h9 (nI_ge (by omega) (by omega))) (fun _ => ?_)
    refine G_st (L := 89) (k := 5) (31, [some (.ref 47), some (.int (nI p)), some (.int (nI len)), some (.long F), none, some (.int (nI k))], [.long F, .int (nI len), .int (nI p), .int (nI k), .ref 47], qS sw gc I J) (q_hn _ _ _ _) rfl ?_
    refine G_callV (b := 47) (ci := 4) (as := [.int (nI k), .int (nI p), .int (nI len), .long F]) (rest := []) rfl rfl rfl (q_lt (by decide)) (by decide) rfl rfl (Nat.le_of_ble_eq_true rfl) (x_mostWith hz hl (by omega) (by omega)) (Nat.le_refl _) ?_
    refine G_st (L := 89) (k := 3) (39, [some (.ref 47), some (.int (nI p)), some (.int (nI len)), some (.long F), none, some (.int (nI k))], [.int (nI p), .ref 51, .int (x_mw I L len F p k)], qS sw gc I J) (q_hn _ _ _ _) rfl ?_
    refine G_iald (i := 51) (n := 41) rfl rfl (q_lt (by decide)) (vp_in_nI (by omega) (by decide)) ?_
    rw [q_clamp (n := p) (by omega)]
    refine G_st (L := 89) (k := 0) (40, [some (.ref 47), some (.int (nI p)), some (.int (nI len)), some (.long F), none, some (.int (nI k))], [.int (I 51 p), .int (x_mw I L len F p k)], qS sw gc I J) (q_hn _ _ _ _) rfl ?_
    refine G_icmp_ne 46 rfl rfl (fun h1 => ?_) (fun h1 => ?_)
    · skip
      refine G_st (L := 89) (k := 2) (16, [some (.ref 47), some (.int (nI p)), some (.int (nI len)), some (.long F), none, some (.int ((nI k) + 1))], [], qS sw gc I J) (q_hn _ _ _ _) rfl ?_
      rw [show (nI k) + 1 = nI (k + 1) from (q_addP rfl rfl)]
      rw [x_pkN, if_neg h1]
      exact ih (k + 1) (by omega)
    · skip
      refine G_st (L := 89) (k := 1) (45, [some (.ref 47), some (.int (nI p)), some (.int (nI len)), some (.long F), none, some (.int (nI k))], [.int (nI k)], qS sw gc I J) (q_hn _ _ _ _) rfl ?_
      exact G_iret rfl rfl (by rw [x_pkN, if_pos h1]; rfl) rfl
theorem x_pieceFor {d : Nat} {sw : Bool} {gc : Nat} {I : Nat → Nat → Int32} {J : Nat → Nat → Int64} {n : Nat} {L : Nat → Nat} (hz : x_Sz I n L) {len p : Nat} {F : Int64} (hl : len ≤ 40) (hp : p < len) : GM (d + 2) 50 [.ref 47, .int (nI p), .int (nI len), .long F] (qS sw gc I J) (some (.int (x_pv (x_pk I L n len F p)))) (qS sw gc I J) := by
  refine GM_of (by decide) (Nat.le_refl _) (Nat.le_of_ble_eq_true rfl) trivial ?_
  refine G_st (L := 89) (k := 0) (0, [some (.ref 47), some (.int (nI p)), some (.int (nI len)), some (.long F), none, none], [], qS sw gc I J) (q_hn _ _ _ _) rfl ?_
  refine G_st (L := 89) (k := 1) (1, [some (.ref 47), some (.int (nI p)), some (.int (nI len)), some (.long F), none, none], [.int (nI p)], qS sw gc I J) (q_hn _ _ _ _) rfl ?_
  refine G_if_lt 10 rfl rfl (fun h9 => absurd h9 (nI_nlt (b := 0) (by omega) (by omega))) (fun _ => ?_)
  refine G_st (L := 89) (k := 2) (7, [some (.ref 47), some (.int (nI p)), some (.int (nI len)), some (.long F), none, none], [.int 40, .int (nI p)], qS sw gc I J) (q_hn _ _ _ _) rfl ?_
  refine G_icmp_le 13 rfl rfl (fun _ => ?_) (fun h9 => absurd (nI_le (b := 40) (by omega) (by decide)) h9)
  refine G_st (L := 89) (k := 2) (16, [some (.ref 47), some (.int (nI p)), some (.int (nI len)), some (.long F), none, some (.int 0)], [], qS sw gc I J) (q_hn _ _ _ _) rfl ?_
  exact x_pf_loop hz hl hp n 0 (by omega)
def q_psl (f : Nat → Option Nat) (L : Nat → Nat) (len : Nat) : Nat → Nat → List (Option Nat)
  | 0, _ => []
  | m + 1, p => if p < len then f p :: q_psl f L len m (match f p with | none => p + 1 | some k => p + L k) else []
def x_putP : List (Option Nat) → Nat → (Nat → Nat → Int32) → (Nat → Nat → Int32)
  | [], _, I => I
  | none :: t, i, I => x_putP t (i + 1) (q_u (q_u (q_u I 52 i (-5)) 47 6 ((I 47 6) + 1)) 47 7 ((I 47 7) + 1))
  | some k :: t, i, I => x_putP t (i + 1) (q_u (q_u I 52 i (nI k)) 47 6 ((I 47 6) + 1))
theorem x_cut_loop {d : Nat} {sw : Bool} {gc : Nat} {J : Nat → Nat → Int64} {n len : Nat} {L : Nat → Nat} {F : Int64} {f : Nat → Option Nat} (hl : len ≤ 40) : ∀ (m i p : Nat) (I : Nat → Nat → Int32), x_Sz I n L → (∀ q, q < len → x_pk I L n len F q = f q) → i ≤ p → p < 100 → len ≤ p + m → G (d + 3) 49 (26, [some (.ref 47), some (.int (nI len)), some (.long F), none, some (.int (nI p)), some (.int (nI i)), none], [], qS sw gc I J) none (qS sw gc (x_putP (q_psl f L len m p) i I) J) := by
  intro m
  induction m with
  | zero =>
    intro i p I hz hf hi hp hm
    refine G_st (L := 89) (k := 2) (30, [some (.ref 47), some (.int (nI len)), some (.long F), none, some (.int (nI p)), some (.int (nI i)), none], [.int 40, .int (nI i)], qS sw gc I J) (q_hn _ _ _ _) rfl ?_
    refine G_icmp_ge 116 rfl rfl (fun h1 => ?_) (fun h1 => ?_)
    · skip
      exact G_ret rfl rfl rfl rfl
    · skip
      refine G_st (L := 89) (k := 2) (36, [some (.ref 47), some (.int (nI len)), some (.long F), none, some (.int (nI p)), some (.int (nI i)), none], [.int (nI len), .int (nI p)], qS sw gc I J) (q_hn _ _ _ _) rfl ?_
      refine G_icmp_ge 116 rfl rfl (fun _ => ?_) (fun h9 => absurd (nI_le (by omega) (by omega)) h9)
      exact G_ret rfl rfl rfl rfl
  | succ m ih =>
    intro i p I hz hf hi hp hm
    by_cases hpl : p < len
    · rw [q_psl, if_pos hpl]
      have h8 := hz.2.1
      cases hfp : f p with
      | none =>
        have hpf := x_pieceFor (d := d) (sw := sw) (gc := gc) (J := J) hz hl hpl (F := F)
        rw [hf p hpl, hfp] at hpf
        refine G_st (L := 89) (k := 2) (30, [some (.ref 47), some (.int (nI len)), some (.long F), none, some (.int (nI p)), some (.int (nI i)), none], [.int 40, .int (nI i)], qS sw gc I J) (q_hn _ _ _ _) rfl ?_
        refine G_icmp_ge 116 rfl rfl (fun h9 => absurd h9 (nI_ge (b := 40) (by omega) (by decide))) (fun _ => ?_)
        refine G_st (L := 89) (k := 2) (36, [some (.ref 47), some (.int (nI len)), some (.long F), none, some (.int (nI p)), some (.int (nI i)), none], [.int (nI len), .int (nI p)], qS sw gc I J) (q_hn _ _ _ _) rfl ?_
        refine G_icmp_ge 116 rfl rfl (fun h9 => absurd h9 (nI_ge (by omega) (by omega))) (fun _ => ?_)
        refine G_st (L := 89) (k := 4) (44, [some (.ref 47), some (.int (nI len)), some (.long F), none, some (.int (nI p)), some (.int (nI i)), none], [.long F, .int (nI len), .int (nI p), .ref 47], qS sw gc I J) (q_hn _ _ _ _) rfl ?_
        refine G_callV (b := 47) (ci := 4) (as := [.int (nI p), .int (nI len), .long F]) (rest := []) rfl rfl rfl (q_lt (by decide)) (by decide) rfl rfl (Nat.le_of_ble_eq_true rfl) hpf (Nat.le_refl _) ?_
        refine G_st (L := 89) (k := 5) (57, [some (.ref 47), some (.int (nI len)), some (.long F), none, some (.int (nI p)), some (.int (nI i)), some (.int (-5))], [.int (-5), .int (nI i), .ref 52], qS sw gc I J) (q_hn _ _ _ _) rfl ?_
        refine G_iast (i := 52) (n := 40) rfl rfl (q_lt (by decide)) (vp_in_nI (by omega) (by decide)) ?_
        rw [q_clamp (n := i) (by omega)]
        refine G_st (L := 89) (k := 2) (60, [some (.ref 47), some (.int (nI len)), some (.long F), none, some (.int (nI p)), some (.int (nI i)), some (.int (-5))], [.ref 47, .ref 47], qS sw gc (q_u I 52 i (-5)) J) (q_hn _ _ _ _) rfl ?_
        refine G_get (ci := 4) (k := 6) (i := 47) rfl rfl rfl (q_lt (by decide)) ?_
        rw [show q_av (qS sw gc (q_u I 52 i (-5)) J) 47 (q_fty 4 6) 6 = .int (I 47 6) from congrArg Value.int (show (q_u I 52 i (-5)) 47 6 = I 47 6 from q_un _ _ (by omega))]
        refine G_st (L := 89) (k := 5) (72, [some (.ref 47), some (.int (nI len)), some (.long F), none, some (.int (nI p)), some (.int (nI i)), some (.int (-5))], [.int (-5), .int (-5)], qS sw gc (q_u (q_u I 52 i (-5)) 47 6 ((I 47 6) + 1)) J) (q_hn _ _ _ _) rfl ?_
        refine G_icmp_ne 85 rfl rfl (fun h9 => absurd h9 (by decide)) (fun _ => ?_)
        refine G_st (L := 89) (k := 2) (77, [some (.ref 47), some (.int (nI len)), some (.long F), none, some (.int (nI p)), some (.int (nI i)), some (.int (-5))], [.ref 47, .ref 47], qS sw gc (q_u (q_u I 52 i (-5)) 47 6 ((I 47 6) + 1)) J) (q_hn _ _ _ _) rfl ?_
        refine G_get (ci := 4) (k := 7) (i := 47) rfl rfl rfl (q_lt (by decide)) ?_
        rw [show q_av (qS sw gc (q_u (q_u I 52 i (-5)) 47 6 ((I 47 6) + 1)) J) 47 (q_fty 4 7) 7 = .int (I 47 7) from congrArg Value.int (show (q_u (q_u I 52 i (-5)) 47 6 ((I 47 6) + 1)) 47 7 = I 47 7 from (q_un _ _ (by omega)).trans (q_un _ _ (by omega)))]
        refine G_st (L := 89) (k := 6) (90, [some (.ref 47), some (.int (nI len)), some (.long F), none, some (.int (nI p)), some (.int (nI i)), some (.int (-5))], [.int (-5), .ref 47, .int (nI p)], qS sw gc (q_u (q_u (q_u I 52 i (-5)) 47 6 ((I 47 6) + 1)) 47 7 ((I 47 7) + 1)) J) (q_hn _ _ _ _) rfl ?_
        refine G_callV (b := 47) (ci := 4) (as := [.int (-5)]) (rest := [.int (nI p)]) rfl rfl rfl (q_lt (by decide)) (by decide) rfl rfl (Nat.le_of_ble_eq_true rfl) (x_hasSizeN (x_Sz.upd (x_Sz.upd (x_Sz.upd hz (by omega) (by omega)) (by omega) (by omega)) (by omega) (by omega)) (Or.inl (by decide))) (Nat.le_refl _) ?_
        refine G_st (L := 89) (k := 0) (93, [some (.ref 47), some (.int (nI len)), some (.long F), none, some (.int (nI p)), some (.int (nI i)), some (.int (-5))], [.int 0, .int (nI p)], qS sw gc (q_u (q_u (q_u I 52 i (-5)) 47 6 ((I 47 6) + 1)) 47 7 ((I 47 7) + 1)) J) (q_hn _ _ _ _) rfl ?_
        refine G_if_eq 106 rfl rfl (fun _ => ?_) (fun h9 => absurd h9 (by decide))
        refine G_st (L := 89) (k := 5) (26, [some (.ref 47), some (.int (nI len)), some (.long F), none, some (.int ((nI p) + 1)), some (.int ((nI i) + 1)), some (.int (-5))], [], qS sw gc (q_u (q_u (q_u I 52 i (-5)) 47 6 ((I 47 6) + 1)) 47 7 ((I 47 7) + 1)) J) (q_hn _ _ _ _) rfl ?_
        rw [show (nI p) + 1 = nI (p + 1) from (q_addP rfl rfl)]
        rw [show (nI i) + 1 = nI (i + 1) from (q_addP rfl rfl)]
        refine G_fg [some (.ref 47), some (.int (nI len)), some (.long F), none, some (.int (nI (p + 1))), some (.int (nI (i + 1))), none] (by repeat (first | exact trivial | refine ⟨rfl, ?_⟩)) ?_
        exact ih (i + 1) (p + 1) _ (x_Sz.upd (x_Sz.upd (x_Sz.upd hz (by omega) (by omega)) (by omega) (by omega)) (by omega) (by omega)) (fun q hq => by rw [x_pk_upd (by omega), x_pk_upd (by omega), x_pk_upd (by omega)]; exact hf q hq) (by omega) (by omega) (by omega)
      | some k =>
        have hpf := x_pieceFor (d := d) (sw := sw) (gc := gc) (J := J) hz hl hpl (F := F)
        rw [hf p hpl, hfp] at hpf
        have hkn := x_pk_lt ((hf p hpl).trans hfp)
        have hLk := hz.2.2 k hkn
        refine G_st (L := 89) (k := 2) (30, [some (.ref 47), some (.int (nI len)), some (.long F), none, some (.int (nI p)), some (.int (nI i)), none], [.int 40, .int (nI i)], qS sw gc I J) (q_hn _ _ _ _) rfl ?_
        refine G_icmp_ge 116 rfl rfl (fun h9 => absurd h9 (nI_ge (b := 40) (by omega) (by decide))) (fun _ => ?_)
        refine G_st (L := 89) (k := 2) (36, [some (.ref 47), some (.int (nI len)), some (.long F), none, some (.int (nI p)), some (.int (nI i)), none], [.int (nI len), .int (nI p)], qS sw gc I J) (q_hn _ _ _ _) rfl ?_
        refine G_icmp_ge 116 rfl rfl (fun h9 => absurd h9 (nI_ge (by omega) (by omega))) (fun _ => ?_)
        refine G_st (L := 89) (k := 4) (44, [some (.ref 47), some (.int (nI len)), some (.long F), none, some (.int (nI p)), some (.int (nI i)), none], [.long F, .int (nI len), .int (nI p), .ref 47], qS sw gc I J) (q_hn _ _ _ _) rfl ?_
        refine G_callV (b := 47) (ci := 4) (as := [.int (nI p), .int (nI len), .long F]) (rest := []) rfl rfl rfl (q_lt (by decide)) (by decide) rfl rfl (Nat.le_of_ble_eq_true rfl) hpf (Nat.le_refl _) ?_
        refine G_st (L := 89) (k := 5) (57, [some (.ref 47), some (.int (nI len)), some (.long F), none, some (.int (nI p)), some (.int (nI i)), some (.int (nI k))], [.int (nI k), .int (nI i), .ref 52], qS sw gc I J) (q_hn _ _ _ _) rfl ?_
        refine G_iast (i := 52) (n := 40) rfl rfl (q_lt (by decide)) (vp_in_nI (by omega) (by decide)) ?_
        rw [q_clamp (n := i) (by omega)]
        refine G_st (L := 89) (k := 2) (60, [some (.ref 47), some (.int (nI len)), some (.long F), none, some (.int (nI p)), some (.int (nI i)), some (.int (nI k))], [.ref 47, .ref 47], qS sw gc (q_u I 52 i (nI k)) J) (q_hn _ _ _ _) rfl ?_
        refine G_get (ci := 4) (k := 6) (i := 47) rfl rfl rfl (q_lt (by decide)) ?_
        rw [show q_av (qS sw gc (q_u I 52 i (nI k)) J) 47 (q_fty 4 6) 6 = .int (I 47 6) from congrArg Value.int (show (q_u I 52 i (nI k)) 47 6 = I 47 6 from q_un _ _ (by omega))]
        refine G_st (L := 89) (k := 5) (72, [some (.ref 47), some (.int (nI len)), some (.long F), none, some (.int (nI p)), some (.int (nI i)), some (.int (nI k))], [.int (-5), .int (nI k)], qS sw gc (q_u (q_u I 52 i (nI k)) 47 6 ((I 47 6) + 1)) J) (q_hn _ _ _ _) rfl ?_
        refine G_icmp_ne 85 rfl rfl (fun _ => ?_) (fun h9 => absurd h9 (fun e9 => absurd e9 (q_neN (by decide) (by have := x_pk_lt ((hf p hpl).trans hfp); omega))))
        refine G_st (L := 89) (k := 3) (90, [some (.ref 47), some (.int (nI len)), some (.long F), none, some (.int (nI p)), some (.int (nI i)), some (.int (nI k))], [.int (nI k), .ref 47, .int (nI p)], qS sw gc (q_u (q_u I 52 i (nI k)) 47 6 ((I 47 6) + 1)) J) (q_hn _ _ _ _) rfl ?_
        refine G_callV (b := 47) (ci := 4) (as := [.int (nI k)]) (rest := [.int (nI p)]) rfl rfl rfl (q_lt (by decide)) (by decide) rfl rfl (Nat.le_of_ble_eq_true rfl) (x_hasSize (x_Sz.upd (x_Sz.upd hz (by omega) (by omega)) (by omega) (by omega)) (x_pk_lt ((hf p hpl).trans hfp))) (Nat.le_refl _) ?_
        refine G_st (L := 89) (k := 0) (93, [some (.ref 47), some (.int (nI len)), some (.long F), none, some (.int (nI p)), some (.int (nI i)), some (.int (nI k))], [.int 1, .int (nI p)], qS sw gc (q_u (q_u I 52 i (nI k)) 47 6 ((I 47 6) + 1)) J) (q_hn _ _ _ _) rfl ?_
        refine G_if_eq 106 rfl rfl (fun h9 => absurd h9 (by decide)) (fun _ => ?_)
        refine G_st (L := 89) (k := 3) (102, [some (.ref 47), some (.int (nI len)), some (.long F), none, some (.int (nI p)), some (.int (nI i)), some (.int (nI k))], [.int (nI k), .ref 48, .int (nI p)], qS sw gc (q_u (q_u I 52 i (nI k)) 47 6 ((I 47 6) + 1)) J) (q_hn _ _ _ _) rfl ?_
        refine G_iald (i := 48) (n := 8) rfl rfl (q_lt (by decide)) (vp_in_nI (by have := x_pk_lt ((hf p hpl).trans hfp); omega) (by decide)) ?_
        rw [q_clamp (n := k) (by omega)]
        rw [show q_i (qS sw gc (q_u (q_u I 52 i (nI k)) 47 6 ((I 47 6) + 1)) J) 48 k = I 48 k from (show (q_u (q_u I 52 i (nI k)) 47 6 ((I 47 6) + 1)) 48 k = I 48 k from (q_un _ _ (by omega)).trans (q_un _ _ (by omega)))]
        refine G_st (L := 89) (k := 5) (26, [some (.ref 47), some (.int (nI len)), some (.long F), none, some (.int ((nI p) + (I 48 k))), some (.int ((nI i) + 1)), some (.int (nI k))], [], qS sw gc (q_u (q_u I 52 i (nI k)) 47 6 ((I 47 6) + 1)) J) (q_hn _ _ _ _) rfl ?_
        rw [show (nI p) + (I 48 k) = nI (p + L k) from (q_addP rfl ((hz.2.2 k hkn).1))]
        rw [show (nI i) + 1 = nI (i + 1) from (q_addP rfl rfl)]
        refine G_fg [some (.ref 47), some (.int (nI len)), some (.long F), none, some (.int (nI (p + L k))), some (.int (nI (i + 1))), none] (by repeat (first | exact trivial | refine ⟨rfl, ?_⟩)) ?_
        exact ih (i + 1) (p + L k) _ (x_Sz.upd (x_Sz.upd hz (by omega) (by omega)) (by omega) (by omega)) (fun q hq => by rw [x_pk_upd (by omega), x_pk_upd (by omega)]; exact hf q hq) (by omega) (by omega) (by omega)
    · rw [q_psl, if_neg hpl]
      refine G_st (L := 89) (k := 2) (30, [some (.ref 47), some (.int (nI len)), some (.long F), none, some (.int (nI p)), some (.int (nI i)), none], [.int 40, .int (nI i)], qS sw gc I J) (q_hn _ _ _ _) rfl ?_
      refine G_icmp_ge 116 rfl rfl (fun h1 => ?_) (fun h1 => ?_)
      · skip
        exact G_ret rfl rfl rfl rfl
      · skip
        refine G_st (L := 89) (k := 2) (36, [some (.ref 47), some (.int (nI len)), some (.long F), none, some (.int (nI p)), some (.int (nI i)), none], [.int (nI len), .int (nI p)], qS sw gc I J) (q_hn _ _ _ _) rfl ?_
        refine G_icmp_ge 116 rfl rfl (fun _ => ?_) (fun h9 => absurd (nI_le (by omega) (by omega)) h9)
        exact G_ret rfl rfl rfl rfl
def x_ct0 (I : Nat → Nat → Int32) (L : Nat → Nat) (n len : Nat) (F : Int64) : Nat → Nat → Int32 := q_u (q_u (q_u (x_mo I L n len F) 47 8 (x_mo I L n len F 51 0)) 47 6 0) 47 7 0
def x_ctI (I : Nat → Nat → Int32) (L : Nat → Nat) (n len : Nat) (F : Int64) : Nat → Nat → Int32 := x_putP (q_psl (fun q => x_pk (x_mo I L n len F) L n len F q) L len len 0) 0 (x_ct0 I L n len F)
theorem x_out_Sz {L : Nat → Nat} {n len : Nat} {F : Int64} : ∀ (p : Nat) (I : Nat → Nat → Int32), x_Sz I n L → x_Sz (x_out L n len F p I) n L
  | 0, I, h => h
  | p + 1, I, h => x_out_Sz p _ (h.upd (by omega) (by omega))
theorem x_mo_Sz {I : Nat → Nat → Int32} {L : Nat → Nat} {n len : Nat} {F : Int64} (h : x_Sz I n L) : x_Sz (x_mo I L n len F) n L := x_out_Sz _ _ (h.upd (by omega) (by omega))
theorem x_cut_ {d : Nat} {sw : Bool} {gc : Nat} {I : Nat → Nat → Int32} {J : Nat → Nat → Int64} {n : Nat} {L : Nat → Nat} (hz : x_Sz I n L) {len : Nat} {F : Int64} (hl : len ≤ 40) (hl1 : 1 ≤ len) (hb : f_isBlock (lN len) F = 1) : GM (d + 3) 49 [.ref 47, .int (nI len), .long F] (qS sw gc I J) (none) (qS sw gc (x_ctI I L n len F) J) := by
  refine GM_of (by decide) (Nat.le_refl _) (Nat.le_of_ble_eq_true rfl) trivial ?_
  refine G_st (L := 89) (k := 0) (0, [some (.ref 47), some (.int (nI len)), some (.long F), none, none, none, none], [], qS sw gc I J) (q_hn _ _ _ _) rfl ?_
  refine G_st (L := 89) (k := 4) (4, [some (.ref 47), some (.int (nI len)), some (.long F), none, none, none, none], [.long F, .int (nI len), .ref 47, .ref 47], qS sw gc I J) (q_hn _ _ _ _) rfl ?_
  refine G_callV (b := 47) (ci := 4) (as := [.int (nI len), .long F]) (rest := [.ref 47]) rfl rfl rfl (q_lt (by decide)) (by decide) rfl rfl (Nat.le_of_ble_eq_true rfl) (x_mostOf hz hl hl1 hb) (Nat.le_refl _) ?_
  refine G_st (L := 89) (k := 11) (26, [some (.ref 47), some (.int (nI len)), some (.long F), none, some (.int 0), some (.int 0), none], [], qS sw gc (q_u (q_u (q_u (x_mo I L n len F) 47 8 (x_mo I L n len F 51 0)) 47 6 0) 47 7 0) J) (q_hn _ _ _ _) rfl ?_
  exact x_cut_loop hl len 0 0 _ (x_Sz.upd (x_Sz.upd (x_Sz.upd (x_mo_Sz hz) (by omega) (by omega)) (by omega) (by omega)) (by omega) (by omega)) (fun q hq => by rw [x_pk_upd (by omega), x_pk_upd (by omega), x_pk_upd (by omega)]) (by omega) (by omega) (by omega)
theorem x_pieceAt {d : Nat} {sw : Bool} {gc : Nat} {I : Nat → Nat → Int32} {J : Nat → Nat → Int64} {c i : Nat} (hc : I 47 6 = nI c) (hc40 : c ≤ 40) (hi : i < c) : GM d 51 [.ref 47, .int (nI i)] (qS sw gc I J) (some (.int (I 52 i))) (qS sw gc I J) := by
  refine GM_of (by decide) (Nat.le_refl _) (Nat.le_of_ble_eq_true rfl) trivial ?_
  refine G_st (L := 89) (k := 0) (0, [some (.ref 47), some (.int (nI i))], [], qS sw gc I J) (q_hn _ _ _ _) rfl ?_
  refine G_st (L := 89) (k := 1) (1, [some (.ref 47), some (.int (nI i))], [.int (nI i)], qS sw gc I J) (q_hn _ _ _ _) rfl ?_
  refine G_if_lt 18 rfl rfl (fun h9 => absurd h9 (nI_nlt (b := 0) (by omega) (by omega))) (fun _ => ?_)
  refine G_st (L := 89) (k := 3) (9, [some (.ref 47), some (.int (nI i))], [.int (I 47 6), .int (nI i)], qS sw gc I J) (q_hn _ _ _ _) rfl ?_
  rw [show I 47 6 = nI c from hc]
  refine G_icmp_ge 18 rfl rfl (fun h9 => absurd h9 (nI_ge (by omega) (by omega))) (fun _ => ?_)
  refine G_st (L := 89) (k := 2) (15, [some (.ref 47), some (.int (nI i))], [.int 40, .int (nI i)], qS sw gc I J) (q_hn _ _ _ _) rfl ?_
  refine G_icmp_lt 23 rfl rfl (fun _ => ?_) (fun h9 => absurd (nI_lt (b := 40) (by omega) (by decide)) h9)
  refine G_st (L := 89) (k := 3) (28, [some (.ref 47), some (.int (nI i))], [.int (nI i), .ref 52], qS sw gc I J) (q_hn _ _ _ _) rfl ?_
  refine G_iald (i := 52) (n := 40) rfl rfl (q_lt (by decide)) (vp_in_nI (by omega) (by decide)) ?_
  rw [q_clamp (n := i) (by omega)]
  refine G_st (L := 89) (k := 0) (29, [some (.ref 47), some (.int (nI i))], [.int (I 52 i)], qS sw gc I J) (q_hn _ _ _ _) rfl ?_
  exact G_iret rfl rfl rfl rfl
theorem x_pieceAtN {d : Nat} {sw : Bool} {gc : Nat} {I : Nat → Nat → Int32} {J : Nat → Nat → Int64} {c : Nat} {x : Int32} (hc : I 47 6 = nI c) (hx : x < 0 ∨ nI c ≤ x) : GM d 51 [.ref 47, .int x] (qS sw gc I J) (some (.int (-4))) (qS sw gc I J) := by
  refine GM_of (by decide) (Nat.le_refl _) (Nat.le_of_ble_eq_true rfl) trivial ?_
  refine G_st (L := 89) (k := 0) (0, [some (.ref 47), some (.int x)], [], qS sw gc I J) (q_hn _ _ _ _) rfl ?_
  refine G_st (L := 89) (k := 1) (1, [some (.ref 47), some (.int x)], [.int x], qS sw gc I J) (q_hn _ _ _ _) rfl ?_
  refine G_if_lt 18 rfl rfl (fun h1 => ?_) (fun h1 => ?_)
  · skip
    refine G_st (L := 89) (k := 2) (29, [some (.ref 47), some (.int x)], [.int (-4)], qS sw gc I J) (q_hn _ _ _ _) rfl ?_
    exact G_iret rfl rfl rfl rfl
  · skip
    refine G_st (L := 89) (k := 3) (9, [some (.ref 47), some (.int x)], [.int (I 47 6), .int x], qS sw gc I J) (q_hn _ _ _ _) rfl ?_
    rw [show I 47 6 = nI c from hc]
    refine G_icmp_ge 18 rfl rfl (fun _ => ?_) (fun h9 => absurd (hx.resolve_left h1) h9)
    refine G_st (L := 89) (k := 2) (29, [some (.ref 47), some (.int x)], [.int (-4)], qS sw gc I J) (q_hn _ _ _ _) rfl ?_
    exact G_iret rfl rfl rfl rfl
def x_csl : List (Option Nat) → (Nat → Nat → Int32) → (Nat → Nat → Int32)
  | [], I => I
  | none :: t, I => x_csl t I
  | some k :: t, I => x_csl t (q_u I 50 k ((I 50 k) + 1))
theorem x_cs_loop {d : Nat} {sw : Bool} {gc : Nat} {J : Nat → Nat → Int64} {n c : Nat} {L : Nat → Nat} (hc40 : c ≤ 40) : ∀ (l : List (Option Nat)) (i : Nat) (I : Nat → Nat → Int32), x_Sz I n L → I 47 6 = nI c → i + l.length = c → (∀ j o, l[j]? = some o → I 52 (i + j) = x_pv o ∧ ∀ k, o = some k → k < n) → G (d + 1) 52 (2, [some (.ref 47), some (.int (nI i)), none], [], qS sw gc I J) none (qS sw gc (x_csl l I) J) := by
  intro l
  induction l with
  | nil =>
    intro i I hz hc hi hl
    obtain rfl : i = c := by simpa using hi
    refine G_st (L := 89) (k := 3) (7, [some (.ref 47), some (.int (nI i)), none], [.int (I 47 6), .int (nI i)], qS sw gc I J) (q_hn _ _ _ _) rfl ?_
    rw [show I 47 6 = nI i from hc]
    refine G_icmp_ge 40 rfl rfl (fun _ => ?_) (fun h9 => absurd (nI_le (Nat.le_refl _) (by omega)) h9)
    exact G_ret rfl rfl rfl rfl
  | cons o t ih =>
    intro i I hz hc hi hl
    have hi2 : i < c := by rw [List.length_cons] at hi; omega
    have h8 := hz.2.1
    have hpa := x_pieceAt (d := d) (sw := sw) (gc := gc) (J := J) hc hc40 hi2
    have h0 := hl 0 o rfl
    rw [Nat.add_zero] at h0
    rw [h0.1] at hpa
    cases o with
    | none =>
      refine G_st (L := 89) (k := 3) (7, [some (.ref 47), some (.int (nI i)), none], [.int (I 47 6), .int (nI i)], qS sw gc I J) (q_hn _ _ _ _) rfl ?_
      rw [show I 47 6 = nI c from hc]
      refine G_icmp_ge 40 rfl rfl (fun h9 => absurd h9 (nI_ge (by omega) (by omega))) (fun _ => ?_)
      refine G_st (L := 89) (k := 2) (12, [some (.ref 47), some (.int (nI i)), none], [.int (nI i), .ref 47], qS sw gc I J) (q_hn _ _ _ _) rfl ?_
      refine G_callV (b := 47) (ci := 4) (as := [.int (nI i)]) (rest := []) rfl rfl rfl (q_lt (by decide)) (by decide) rfl rfl (Nat.le_of_ble_eq_true rfl) hpa (Nat.le_refl _) ?_
      refine G_st (L := 89) (k := 3) (18, [some (.ref 47), some (.int (nI i)), some (.int (-5))], [.int (-5), .ref 47], qS sw gc I J) (q_hn _ _ _ _) rfl ?_
      refine G_callV (b := 47) (ci := 4) (as := [.int (-5)]) (rest := []) rfl rfl rfl (q_lt (by decide)) (by decide) rfl rfl (Nat.le_of_ble_eq_true rfl) (x_hasSizeN hz (Or.inl (by decide))) (Nat.le_refl _) ?_
      refine G_st (L := 89) (k := 0) (21, [some (.ref 47), some (.int (nI i)), some (.int (-5))], [.int 0], qS sw gc I J) (q_hn _ _ _ _) rfl ?_
      refine G_if_eq 34 rfl rfl (fun _ => ?_) (fun h9 => absurd h9 (by decide))
      refine G_st (L := 89) (k := 2) (2, [some (.ref 47), some (.int ((nI i) + 1)), some (.int (-5))], [], qS sw gc I J) (q_hn _ _ _ _) rfl ?_
      rw [show (nI i) + 1 = nI (i + 1) from (q_addP rfl rfl)]
      refine G_fg [some (.ref 47), some (.int (nI (i + 1))), none] (by repeat (first | exact trivial | refine ⟨rfl, ?_⟩)) ?_
      exact ih (i + 1) I hz hc (by rw [List.length_cons] at hi; omega) (fun j o2 hj => by have := hl (j + 1) o2 hj; rw [show i + (j + 1) = i + 1 + j by omega] at this; exact this)
    | some k =>
      have hkn := h0.2 k rfl
      refine G_st (L := 89) (k := 3) (7, [some (.ref 47), some (.int (nI i)), none], [.int (I 47 6), .int (nI i)], qS sw gc I J) (q_hn _ _ _ _) rfl ?_
      rw [show I 47 6 = nI c from hc]
      refine G_icmp_ge 40 rfl rfl (fun h9 => absurd h9 (nI_ge (by omega) (by omega))) (fun _ => ?_)
      refine G_st (L := 89) (k := 2) (12, [some (.ref 47), some (.int (nI i)), none], [.int (nI i), .ref 47], qS sw gc I J) (q_hn _ _ _ _) rfl ?_
      refine G_callV (b := 47) (ci := 4) (as := [.int (nI i)]) (rest := []) rfl rfl rfl (q_lt (by decide)) (by decide) rfl rfl (Nat.le_of_ble_eq_true rfl) hpa (Nat.le_refl _) ?_
      refine G_st (L := 89) (k := 3) (18, [some (.ref 47), some (.int (nI i)), some (.int (nI k))], [.int (nI k), .ref 47], qS sw gc I J) (q_hn _ _ _ _) rfl ?_
      refine G_callV (b := 47) (ci := 4) (as := [.int (nI k)]) (rest := []) rfl rfl rfl (q_lt (by decide)) (by decide) rfl rfl (Nat.le_of_ble_eq_true rfl) (x_hasSize hz hkn) (Nat.le_refl _) ?_
      refine G_st (L := 89) (k := 0) (21, [some (.ref 47), some (.int (nI i)), some (.int (nI k))], [.int 1], qS sw gc I J) (q_hn _ _ _ _) rfl ?_
      refine G_if_eq 34 rfl rfl (fun h9 => absurd h9 (by decide)) (fun _ => ?_)
      refine G_st (L := 89) (k := 4) (30, [some (.ref 47), some (.int (nI i)), some (.int (nI k))], [.int (nI k), .ref 50, .int (nI k), .ref 50], qS sw gc I J) (q_hn _ _ _ _) rfl ?_
      refine G_iald (i := 50) (n := 8) rfl rfl (q_lt (by decide)) (vp_in_nI (by omega) (by decide)) ?_
      rw [q_clamp (n := k) (by omega)]
      refine G_st (L := 89) (k := 2) (33, [some (.ref 47), some (.int (nI i)), some (.int (nI k))], [.int ((I 50 k) + 1), .int (nI k), .ref 50], qS sw gc I J) (q_hn _ _ _ _) rfl ?_
      refine G_iast (i := 50) (n := 8) rfl rfl (q_lt (by decide)) (vp_in_nI (by omega) (by decide)) ?_
      rw [q_clamp (n := k) (by omega)]
      refine G_st (L := 89) (k := 2) (2, [some (.ref 47), some (.int ((nI i) + 1)), some (.int (nI k))], [], qS sw gc (q_u I 50 k ((I 50 k) + 1)) J) (q_hn _ _ _ _) rfl ?_
      rw [show (nI i) + 1 = nI (i + 1) from (q_addP rfl rfl)]
      refine G_fg [some (.ref 47), some (.int (nI (i + 1))), none] (by repeat (first | exact trivial | refine ⟨rfl, ?_⟩)) ?_
      exact ih (i + 1) _ (hz.upd (by omega) (by omega)) (by rw [q_un _ _ (by omega)]; exact hc) (by rw [List.length_cons] at hi; omega) (fun j o2 hj => by have := hl (j + 1) o2 hj; rw [show i + (j + 1) = i + 1 + j by omega] at this; rw [q_un _ _ (by omega)]; exact this)
theorem x_countSlates {d : Nat} {sw : Bool} {gc : Nat} {I : Nat → Nat → Int32} {J : Nat → Nat → Int64} {n : Nat} {L : Nat → Nat} (hz : x_Sz I n L) {c : Nat} {l : List (Option Nat)} (hc40 : c ≤ 40) (hc : I 47 6 = nI c) (hlen : l.length = c) (hl : ∀ (j : Nat) (o : Option Nat), l[j]? = some o → I 52 j = x_pv o ∧ ∀ k, o = some k → k < n) : GM (d + 1) 52 [.ref 47] (qS sw gc I J) (none) (qS sw gc (x_csl l I) J) := by
  refine GM_of (by decide) (Nat.le_refl _) (Nat.le_of_ble_eq_true rfl) trivial ?_
  refine G_st (L := 89) (k := 0) (0, [some (.ref 47), none, none], [], qS sw gc I J) (q_hn _ _ _ _) rfl ?_
  refine G_st (L := 89) (k := 2) (2, [some (.ref 47), some (.int 0), none], [], qS sw gc I J) (q_hn _ _ _ _) rfl ?_
  exact x_cs_loop hc40 l 0 I hz hc (by omega) (fun j o hj => by rw [Nat.zero_add]; exact hl j o hj)
