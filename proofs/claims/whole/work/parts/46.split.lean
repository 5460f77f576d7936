def y_p1 (L P b : Nat → Nat) (F : Int64) (len p k : Nat) : Bool := y_fit F len p (L k) && decide (P k + b (p + L k) = b p)
def y_pkN (L P b : Nat → Nat) (F : Int64) (len p : Nat) : Nat → Nat → Option Nat
  | 0, _ => none
  | m + 1, k => cond (y_p1 L P b F len p k) (some k) (y_pkN L P b F len p m (k + 1))
def y_pk (L P : Nat → Nat) (n : Nat) (F : Int64) (len p : Nat) : Option Nat := y_pkN L P (y_dp L P n F len) F len p n 0
theorem y_pkN_lt {L P b : Nat → Nat} {F : Int64} {len p : Nat} : ∀ (m k j : Nat), y_pkN L P b F len p m k = some j → j < k + m ∧ y_fit F len p (L j) = true
  | 0, _, _, h => by cases h
  | m + 1, k, j, h => by
    unfold y_pkN at h
    cases h1 : y_p1 L P b F len p k with
    | true =>
      rw [h1] at h
      cases h
      exact ⟨by omega, (Bool.and_eq_true_iff.mp h1).1⟩
    | false =>
      rw [h1] at h
      obtain ⟨h2, h3⟩ := y_pkN_lt m (k + 1) j h
      exact ⟨by omega, h3⟩
theorem r_ch_loop {d : Nat} {sw : Bool} {gc : Nat} {J : Nat → Nat → Int64} {n len p : Nat} {L P b : Nat → Nat} {F : Int64} {K : Nat → Nat → Int32} (hz : r_Sz K n L P) (hlen : len ≤ 40) (hp : p < len) (hr : ∀ q, q ≤ len → K 85 q = nI (b q)) (hb : y_ok b len 0) : ∀ (m k : Nat), k + m = n → G (d + 1) 133 (3, [some (.ref 62), some (.int (nI p)), some (.int (nI len)), some (.long F), none, some (.int (nI k))], [], qS sw gc K J) (some (.int (x_pv (y_pkN L P b F len p m k)))) (qS sw gc K J) := by
  intro m
  have hn8 := hz.2.1
  induction m with
  | zero =>
    intro k h
    obtain rfl : k = n := by omega
    refine G_st (L := 89) (k := 3) (9, [some (.ref 62), some (.int (nI p)), some (.int (nI len)), some (.long F), none, some (.int (nI k))], [.int (K 62 32), .int (nI k)], qS sw gc K J) (q_hn _ _ _ _) rfl ?_
    rw [show K 62 32 = nI k from hz.1]
    refine G_icmp_ge 64 rfl rfl (fun _ => ?_) (fun h9 => absurd (nI_le (Nat.le_refl _) (by omega)) h9)
    refine G_st (L := 89) (k := 1) (66, [some (.ref 62), some (.int (nI p)), some (.int (nI len)), some (.long F), none, some (.int (nI k))], [.int (-5)], qS sw gc K J) (q_hn _ _ _ _) rfl ?_
    exact G_iret rfl rfl rfl rfl
  | succ m ih =>
    intro k h
    obtain ⟨z1, z2, z3, z4, z5⟩ := hz.2.2 k (by omega)
    have hpp := hr p (by omega)
    have hbp := hb p (Nat.zero_le _) (by omega)
    cases hf : y_fit F len p (L k) with
    | false =>
      rw [show y_pkN L P b F len p (m + 1) k = y_pkN L P b F len p m (k + 1) by rw [y_pkN, y_p1, hf]; rfl]
      refine G_st (L := 89) (k := 3) (9, [some (.ref 62), some (.int (nI p)), some (.int (nI len)), some (.long F), none, some (.int (nI k))], [.int (K 62 32), .int (nI k)], qS sw gc K J) (q_hn _ _ _ _) rfl ?_
      rw [show K 62 32 = nI n from hz.1]
      refine G_icmp_ge 64 rfl rfl (fun h9 => absurd h9 (nI_ge (by omega) (by omega))) (fun _ => ?_)
      refine G_st (L := 89) (k := 5) (18, [some (.ref 62), some (.int (nI p)), some (.int (nI len)), some (.long F), none, some (.int (nI k))], [.long F, .int (nI len), .int (nI p), .int (nI k), .ref 62], qS sw gc K J) (q_hn _ _ _ _) rfl ?_
      refine G_callV (b := 62) (ci := 9) (as := [.int (nI k), .int (nI p), .int (nI len), .long F]) (rest := []) rfl rfl rfl (q_lt (by decide)) (by decide) rfl rfl (Nat.le_of_ble_eq_true rfl) (GM_r (r2 := 0) (r_fits (by omega) z1 z2 z3 (by omega) hlen) (by rw [hf]; rfl)) (Nat.le_refl _) ?_
      refine G_st (L := 89) (k := 0) (21, [some (.ref 62), some (.int (nI p)), some (.int (nI len)), some (.long F), none, some (.int (nI k))], [.int 0], qS sw gc K J) (q_hn _ _ _ _) rfl ?_
      refine G_if_eq 58 rfl rfl (fun _ => ?_) (fun h9 => absurd h9 (by decide))
      refine G_st (L := 89) (k := 2) (3, [some (.ref 62), some (.int (nI p)), some (.int (nI len)), some (.long F), none, some (.int ((nI k) + 1))], [], qS sw gc K J) (q_hn _ _ _ _) rfl ?_
      rw [show (nI k) + 1 = nI (k + 1) from (q_addP rfl rfl)]
      exact ih (k + 1) (by omega)
    | true =>
      have hfl := y_fit_le hf
      have hq := hr (p + L k) hfl
      have hbq := hb (p + L k) (Nat.zero_le _) hfl
      by_cases hv : P k + b (p + L k) = b p
      · rw [show y_pkN L P b F len p (m + 1) k = some k by rw [y_pkN, y_p1, hf, decide_eq_true hv]; rfl]
        refine G_st (L := 89) (k := 3) (9, [some (.ref 62), some (.int (nI p)), some (.int (nI len)), some (.long F), none, some (.int (nI k))], [.int (K 62 32), .int (nI k)], qS sw gc K J) (q_hn _ _ _ _) rfl ?_
        rw [show K 62 32 = nI n from hz.1]
        refine G_icmp_ge 64 rfl rfl (fun h9 => absurd h9 (nI_ge (by omega) (by omega))) (fun _ => ?_)
        refine G_st (L := 89) (k := 5) (18, [some (.ref 62), some (.int (nI p)), some (.int (nI len)), some (.long F), none, some (.int (nI k))], [.long F, .int (nI len), .int (nI p), .int (nI k), .ref 62], qS sw gc K J) (q_hn _ _ _ _) rfl ?_
        refine G_callV (b := 62) (ci := 9) (as := [.int (nI k), .int (nI p), .int (nI len), .long F]) (rest := []) rfl rfl rfl (q_lt (by decide)) (by decide) rfl rfl (Nat.le_of_ble_eq_true rfl) (GM_r (r2 := 1) (r_fits (by omega) z1 z2 z3 (by omega) hlen) (by rw [hf]; rfl)) (Nat.le_refl _) ?_
        refine G_st (L := 89) (k := 0) (21, [some (.ref 62), some (.int (nI p)), some (.int (nI len)), some (.long F), none, some (.int (nI k))], [.int 1], qS sw gc K J) (q_hn _ _ _ _) rfl ?_
        refine G_if_eq 58 rfl rfl (fun h9 => absurd h9 (by decide)) (fun _ => ?_)
        refine G_st (L := 89) (k := 3) (30, [some (.ref 62), some (.int (nI p)), some (.int (nI len)), some (.long F), none, some (.int (nI k))], [.int (nI k), .ref 83], qS sw gc K J) (q_hn _ _ _ _) rfl ?_
        refine G_iald (i := 83) (n := 8) rfl rfl (q_lt (by decide)) (vp_in_nI (by omega) (by decide)) ?_
        rw [q_clamp (n := k) (by omega)]
        refine G_st (L := 89) (k := 6) (42, [some (.ref 62), some (.int (nI p)), some (.int (nI len)), some (.long F), none, some (.int (nI k))], [.int (nI k), .ref 82, .int (nI p), .ref 85, .int (K 83 k)], qS sw gc K J) (q_hn _ _ _ _) rfl ?_
        rw [show K 83 k = nI (P k) from z4]
        refine G_iald (i := 82) (n := 8) rfl rfl (q_lt (by decide)) (vp_in_nI (by omega) (by decide)) ?_
        rw [q_clamp (n := k) (by omega)]
        refine G_st (L := 89) (k := 1) (44, [some (.ref 62), some (.int (nI p)), some (.int (nI len)), some (.long F), none, some (.int (nI k))], [.int ((nI p) + (K 82 k)), .ref 85, .int (nI (P k))], qS sw gc K J) (q_hn _ _ _ _) rfl ?_
        rw [show (nI p) + (K 82 k) = nI (p + L k) from (q_addP rfl z1)]
        refine G_iald (i := 85) (n := 41) rfl rfl (q_lt (by decide)) (vp_in_nI (by omega) (by decide)) ?_
        rw [q_clamp (n := p + L k) (by omega)]
        refine G_st (L := 89) (k := 4) (51, [some (.ref 62), some (.int (nI p)), some (.int (nI len)), some (.long F), none, some (.int (nI k))], [.int (nI p), .ref 85, .int ((nI (P k)) + (K 85 (p + L k)))], qS sw gc K J) (q_hn _ _ _ _) rfl ?_
        rw [show (nI (P k)) + (K 85 (p + L k)) = nI (P k + b (p + L k)) from (q_addP rfl hq)]
        refine G_iald (i := 85) (n := 41) rfl rfl (q_lt (by decide)) (vp_in_nI (by omega) (by decide)) ?_
        rw [q_clamp (n := p) (by omega)]
        refine G_st (L := 89) (k := 0) (52, [some (.ref 62), some (.int (nI p)), some (.int (nI len)), some (.long F), none, some (.int (nI k))], [.int (K 85 p), .int (nI (P k + b (p + L k)))], qS sw gc K J) (q_hn _ _ _ _) rfl ?_
        rw [show K 85 p = nI (b p) from hpp]
        refine G_icmp_ne 58 rfl rfl (fun h9 => absurd (congrArg nI hv) h9) (fun _ => ?_)
        refine G_st (L := 89) (k := 1) (57, [some (.ref 62), some (.int (nI p)), some (.int (nI len)), some (.long F), none, some (.int (nI k))], [.int (nI k)], qS sw gc K J) (q_hn _ _ _ _) rfl ?_
        exact G_iret rfl rfl rfl rfl
      · rw [show y_pkN L P b F len p (m + 1) k = y_pkN L P b F len p m (k + 1) by rw [y_pkN, y_p1, hf, decide_eq_false hv]; rfl]
        refine G_st (L := 89) (k := 3) (9, [some (.ref 62), some (.int (nI p)), some (.int (nI len)), some (.long F), none, some (.int (nI k))], [.int (K 62 32), .int (nI k)], qS sw gc K J) (q_hn _ _ _ _) rfl ?_
        rw [show K 62 32 = nI n from hz.1]
        refine G_icmp_ge 64 rfl rfl (fun h9 => absurd h9 (nI_ge (by omega) (by omega))) (fun _ => ?_)
        refine G_st (L := 89) (k := 5) (18, [some (.ref 62), some (.int (nI p)), some (.int (nI len)), some (.long F), none, some (.int (nI k))], [.long F, .int (nI len), .int (nI p), .int (nI k), .ref 62], qS sw gc K J) (q_hn _ _ _ _) rfl ?_
        refine G_callV (b := 62) (ci := 9) (as := [.int (nI k), .int (nI p), .int (nI len), .long F]) (rest := []) rfl rfl rfl (q_lt (by decide)) (by decide) rfl rfl (Nat.le_of_ble_eq_true rfl) (GM_r (r2 := 1) (r_fits (by omega) z1 z2 z3 (by omega) hlen) (by rw [hf]; rfl)) (Nat.le_refl _) ?_
        refine G_st (L := 89) (k := 0) (21, [some (.ref 62), some (.int (nI p)), some (.int (nI len)), some (.long F), none, some (.int (nI k))], [.int 1], qS sw gc K J) (q_hn _ _ _ _) rfl ?_
        refine G_if_eq 58 rfl rfl (fun h9 => absurd h9 (by decide)) (fun _ => ?_)
        refine G_st (L := 89) (k := 3) (30, [some (.ref 62), some (.int (nI p)), some (.int (nI len)), some (.long F), none, some (.int (nI k))], [.int (nI k), .ref 83], qS sw gc K J) (q_hn _ _ _ _) rfl ?_
        refine G_iald (i := 83) (n := 8) rfl rfl (q_lt (by decide)) (vp_in_nI (by omega) (by decide)) ?_
        rw [q_clamp (n := k) (by omega)]
        refine G_st (L := 89) (k := 6) (42, [some (.ref 62), some (.int (nI p)), some (.int (nI len)), some (.long F), none, some (.int (nI k))], [.int (nI k), .ref 82, .int (nI p), .ref 85, .int (K 83 k)], qS sw gc K J) (q_hn _ _ _ _) rfl ?_
        rw [show K 83 k = nI (P k) from z4]
        refine G_iald (i := 82) (n := 8) rfl rfl (q_lt (by decide)) (vp_in_nI (by omega) (by decide)) ?_
        rw [q_clamp (n := k) (by omega)]
        refine G_st (L := 89) (k := 1) (44, [some (.ref 62), some (.int (nI p)), some (.int (nI len)), some (.long F), none, some (.int (nI k))], [.int ((nI p) + (K 82 k)), .ref 85, .int (nI (P k))], qS sw gc K J) (q_hn _ _ _ _) rfl ?_
        rw [show (nI p) + (K 82 k) = nI (p + L k) from (q_addP rfl z1)]
        refine G_iald (i := 85) (n := 41) rfl rfl (q_lt (by decide)) (vp_in_nI (by omega) (by decide)) ?_
        rw [q_clamp (n := p + L k) (by omega)]
        refine G_st (L := 89) (k := 4) (51, [some (.ref 62), some (.int (nI p)), some (.int (nI len)), some (.long F), none, some (.int (nI k))], [.int (nI p), .ref 85, .int ((nI (P k)) + (K 85 (p + L k)))], qS sw gc K J) (q_hn _ _ _ _) rfl ?_
        rw [show (nI (P k)) + (K 85 (p + L k)) = nI (P k + b (p + L k)) from (q_addP rfl hq)]
        refine G_iald (i := 85) (n := 41) rfl rfl (q_lt (by decide)) (vp_in_nI (by omega) (by decide)) ?_
        rw [q_clamp (n := p) (by omega)]
        refine G_st (L := 89) (k := 0) (52, [some (.ref 62), some (.int (nI p)), some (.int (nI len)), some (.long F), none, some (.int (nI k))], [.int (K 85 p), .int (nI (P k + b (p + L k)))], qS sw gc K J) (q_hn _ _ _ _) rfl ?_
        rw [show K 85 p = nI (b p) from hpp]
        refine G_icmp_ne 58 rfl rfl (fun _ => ?_) (fun h9 => absurd h9 (fun e9 => hv ((nI_eq (by omega) (by omega)).mp e9)))
        refine G_st (L := 89) (k := 2) (3, [some (.ref 62), some (.int (nI p)), some (.int (nI len)), some (.long F), none, some (.int ((nI k) + 1))], [], qS sw gc K J) (q_hn _ _ _ _) rfl ?_
        rw [show (nI k) + 1 = nI (k + 1) from (q_addP rfl rfl)]
        exact ih (k + 1) (by omega)
theorem r_choice {d : Nat} {sw : Bool} {gc : Nat} {J : Nat → Nat → Int64} {n len p : Nat} {L P b : Nat → Nat} {F : Int64} {K : Nat → Nat → Int32} (hz : r_Sz K n L P) (hlen : len ≤ 40) (hp : p < len) (hr : ∀ q, q ≤ len → K 85 q = nI (b q)) (hb : y_ok b len 0) : GM (d + 1) 133 [.ref 62, .int (nI p), .int (nI len), .long F] (qS sw gc K J) (some (.int (x_pv (y_pkN L P b F len p n 0)))) (qS sw gc K J) := by
  refine GM_of (by decide) (Nat.le_refl _) (Nat.le_of_ble_eq_true rfl) trivial ?_
  refine G_st (L := 89) (k := 2) (3, [some (.ref 62), some (.int (nI p)), some (.int (nI len)), some (.long F), none, some (.int 0)], [], qS sw gc K J) (q_hn _ _ _ _) rfl ?_
  exact r_ch_loop hz hlen hp hr hb n 0 (by omega)
theorem r_most {d : Nat} {sw : Bool} {gc : Nat} {I : Nat → Nat → Int32} {J : Nat → Nat → Int64} {n len : Nat} {L P : Nat → Nat} {F : Int64} (hz : r_Sz I n L P) (hlen : len ≤ 40) (hl1 : 1 ≤ len) (hbl : f_r_isBlock (lN len) F = 1) : GM (d + 2) 134 [.ref 62, .int (nI len), .long F] (qS sw gc I J) (some (.int (nI (y_dp L P n F len 0)))) (qS sw gc (r_mo I L P n len F) J) := by
  refine GM_of (by decide) (Nat.le_refl _) (Nat.le_of_ble_eq_true rfl) trivial ?_
  refine G_st (L := 89) (k := 0) (0, [some (.ref 62), some (.int (nI len)), some (.long F), none], [], qS sw gc I J) (q_hn _ _ _ _) rfl ?_
  refine G_st (L := 89) (k := 3) (3, [some (.ref 62), some (.int (nI len)), some (.long F), none], [.long F, .long (Int32.toInt64 (nI len))], qS sw gc I J) (q_hn _ _ _ _) rfl ?_
  rw [show Int32.toInt64 (nI len) = lN len from (q_i2lP rfl (by omega))]
  refine G_callS (as := [.long (lN len), .long F]) (rest := []) rfl rfl rfl (Nat.le_of_ble_eq_true rfl) (GM_r (r2 := 1) r_isBlock hbl) (Nat.le_refl _) ?_
  refine G_st (L := 89) (k := 0) (6, [some (.ref 62), some (.int (nI len)), some (.long F), none], [.int 1], qS sw gc I J) (q_hn _ _ _ _) rfl ?_
  refine G_if_eq 18 rfl rfl (fun h9 => absurd h9 (by decide)) (fun _ => ?_)
  refine G_st (L := 89) (k := 3) (12, [some (.ref 62), some (.int (nI len)), some (.long F), none], [.long F, .int (nI len), .ref 62], qS sw gc I J) (q_hn _ _ _ _) rfl ?_
  refine G_callV (b := 62) (ci := 9) (as := [.int (nI len), .long F]) (rest := []) rfl rfl rfl (q_lt (by decide)) (by decide) rfl rfl (Nat.le_of_ble_eq_true rfl) (r_mostOf hz hlen hl1) (Nat.le_refl _) ?_
  refine G_st (L := 89) (k := 1) (19, [some (.ref 62), some (.int (nI len)), some (.long F), none], [.int (nI (y_dp L P n F len 0))], qS sw gc (r_mo I L P n len F) J) (q_hn _ _ _ _) rfl ?_
  exact G_iret rfl rfl rfl rfl
theorem r_mostB {d : Nat} {sw : Bool} {gc : Nat} {I : Nat → Nat → Int32} {J : Nat → Nat → Int64} {x : Int32} {F : Int64} (hbl : f_r_isBlock (Int32.toInt64 x) F = 0) : GM (d + 2) 134 [.ref 62, .int x, .long F] (qS sw gc I J) (some (.int (-1))) (qS sw gc I J) := by
  refine GM_of (by decide) (Nat.le_refl _) (Nat.le_of_ble_eq_true rfl) trivial ?_
  refine G_st (L := 89) (k := 0) (0, [some (.ref 62), some (.int x), some (.long F), none], [], qS sw gc I J) (q_hn _ _ _ _) rfl ?_
  refine G_st (L := 89) (k := 3) (3, [some (.ref 62), some (.int x), some (.long F), none], [.long F, .long (Int32.toInt64 x)], qS sw gc I J) (q_hn _ _ _ _) rfl ?_
  refine G_callS (as := [.long (Int32.toInt64 x), .long F]) (rest := []) rfl rfl rfl (Nat.le_of_ble_eq_true rfl) (GM_r (r2 := 0) r_isBlock hbl) (Nat.le_refl _) ?_
  refine G_st (L := 89) (k := 0) (6, [some (.ref 62), some (.int x), some (.long F), none], [.int 0], qS sw gc I J) (q_hn _ _ _ _) rfl ?_
  refine G_if_eq 18 rfl rfl (fun _ => ?_) (fun h9 => absurd h9 (by decide))
  refine G_st (L := 89) (k := 1) (19, [some (.ref 62), some (.int x), some (.long F), none], [.int (-1)], qS sw gc I J) (q_hn _ _ _ _) rfl ?_
  exact G_iret rfl rfl rfl rfl
def y_nth (l : List (Option Nat)) (j : Nat) : Int32 := match l[j]? with
  | some o => x_pv o
  | none => -4
def y_ps (L P : Nat → Nat) (n : Nat) (F : Int64) (len : Nat) : List (Option Nat) := q_psl (fun p => y_pk L P n F len p) L len len 0
theorem r_sp_loop {d : Nat} {sw : Bool} {gc : Nat} {J : Nat → Nat → Int64} {n len i : Nat} {L P : Nat → Nat} {F : Int64} {K : Nat → Nat → Int32} (hz : r_Sz K n L P) (hlen : len ≤ 40) (hi : i < 2 ^ 31) (hr : ∀ q, q ≤ len → K 85 q = nI (y_dp L P n F len q)) : ∀ (m p c j : Nat), i = c + j → len ≤ p + m → p ≤ 100 → c ≤ p → G (d + 2) 135 (29, [some (.ref 62), some (.int (nI len)), some (.long F), none, some (.int (nI i)), some (.int (nI p)), some (.int (nI c)), none], [], qS sw gc K J) (some (.int (y_nth (q_psl (fun p => y_pk L P n F len p) L len m p) j))) (qS sw gc K J) := by
  intro m
  have hn8 := hz.2.1
  have hb := y_dp_ok (F := F) (len := len) hz.lp
  induction m with
  | zero =>
    intro p c j hij h h1 h2
    refine G_st (L := 89) (k := 2) (32, [some (.ref 62), some (.int (nI len)), some (.long F), none, some (.int (nI i)), some (.int (nI p)), some (.int (nI c)), none], [.int (nI len), .int (nI p)], qS sw gc K J) (q_hn _ _ _ _) rfl ?_
    refine G_icmp_ge 84 rfl rfl (fun _ => ?_) (fun h9 => absurd (nI_le (by omega) (by omega)) h9)
    refine G_st (L := 89) (k := 1) (86, [some (.ref 62), some (.int (nI len)), some (.long F), none, some (.int (nI i)), some (.int (nI p)), some (.int (nI c)), none], [.int (-4)], qS sw gc K J) (q_hn _ _ _ _) rfl ?_
    exact G_iret rfl rfl rfl rfl
  | succ m ih =>
    intro p c j hij h h1 h2
    unfold q_psl
    by_cases hp : p < len
    · rw [if_pos hp]
      have hch := r_choice (d := d) (sw := sw) (gc := gc) (J := J) (F := F) hz hlen hp hr hb
      rw [show y_pkN L P (y_dp L P n F len) F len p n 0 = y_pk L P n F len p from rfl] at hch
      cases hf : y_pk L P n F len p with
      | none =>
        rw [hf] at hch
        cases j with
        | zero =>
          refine G_st (L := 89) (k := 2) (32, [some (.ref 62), some (.int (nI len)), some (.long F), none, some (.int (nI i)), some (.int (nI p)), some (.int (nI c)), none], [.int (nI len), .int (nI p)], qS sw gc K J) (q_hn _ _ _ _) rfl ?_
          refine G_icmp_ge 84 rfl rfl (fun h9 => absurd h9 (nI_ge (by omega) (by omega))) (fun _ => ?_)
          refine G_st (L := 89) (k := 4) (40, [some (.ref 62), some (.int (nI len)), some (.long F), none, some (.int (nI i)), some (.int (nI p)), some (.int (nI c)), none], [.long F, .int (nI len), .int (nI p), .ref 62], qS sw gc K J) (q_hn _ _ _ _) rfl ?_
          refine G_callV (b := 62) (ci := 9) (as := [.int (nI p), .int (nI len), .long F]) (rest := []) rfl rfl rfl (q_lt (by decide)) (by decide) rfl rfl (Nat.le_of_ble_eq_true rfl) hch (Nat.le_refl _) ?_
          refine G_st (L := 89) (k := 3) (49, [some (.ref 62), some (.int (nI len)), some (.long F), none, some (.int (nI i)), some (.int (nI p)), some (.int (nI c)), some (.int (-5))], [.int (nI i), .int (nI c)], qS sw gc K J) (q_hn _ _ _ _) rfl ?_
          refine G_icmp_ne 55 rfl rfl (fun h9 => absurd (congrArg nI (by omega)) h9) (fun _ => ?_)
          refine G_st (L := 89) (k := 1) (54, [some (.ref 62), some (.int (nI len)), some (.long F), none, some (.int (nI i)), some (.int (nI p)), some (.int (nI c)), some (.int (-5))], [.int (-5)], qS sw gc K J) (q_hn _ _ _ _) rfl ?_
          exact G_iret rfl rfl rfl rfl
        | succ j =>
          refine G_st (L := 89) (k := 2) (32, [some (.ref 62), some (.int (nI len)), some (.long F), none, some (.int (nI i)), some (.int (nI p)), some (.int (nI c)), none], [.int (nI len), .int (nI p)], qS sw gc K J) (q_hn _ _ _ _) rfl ?_
          refine G_icmp_ge 84 rfl rfl (fun h9 => absurd h9 (nI_ge (by omega) (by omega))) (fun _ => ?_)
          refine G_st (L := 89) (k := 4) (40, [some (.ref 62), some (.int (nI len)), some (.long F), none, some (.int (nI i)), some (.int (nI p)), some (.int (nI c)), none], [.long F, .int (nI len), .int (nI p), .ref 62], qS sw gc K J) (q_hn _ _ _ _) rfl ?_
          refine G_callV (b := 62) (ci := 9) (as := [.int (nI p), .int (nI len), .long F]) (rest := []) rfl rfl rfl (q_lt (by decide)) (by decide) rfl rfl (Nat.le_of_ble_eq_true rfl) hch (Nat.le_refl _) ?_
          refine G_st (L := 89) (k := 3) (49, [some (.ref 62), some (.int (nI len)), some (.long F), none, some (.int (nI i)), some (.int (nI p)), some (.int (nI c)), some (.int (-5))], [.int (nI i), .int (nI c)], qS sw gc K J) (q_hn _ _ _ _) rfl ?_
          refine G_icmp_ne 55 rfl rfl (fun _ => ?_) (fun h9 => absurd h9 (fun e9 => absurd ((nI_eq (by omega) (by omega)).mp e9) (by omega)))
          refine G_st (L := 89) (k := 3) (61, [some (.ref 62), some (.int (nI len)), some (.long F), none, some (.int (nI i)), some (.int (nI p)), some (.int (nI c)), some (.int (-5))], [.int (-5), .int (-5), .int (nI p)], qS sw gc K J) (q_hn _ _ _ _) rfl ?_
          refine G_icmp_ne 68 rfl rfl (fun h9 => absurd h9 (by decide)) (fun _ => ?_)
          refine G_st (L := 89) (k := 6) (29, [some (.ref 62), some (.int (nI len)), some (.long F), none, some (.int (nI i)), some (.int ((nI p) + 1)), some (.int ((nI c) + 1)), some (.int (-5))], [], qS sw gc K J) (q_hn _ _ _ _) rfl ?_
          rw [show (nI p) + 1 = nI (p + 1) from (q_addP rfl rfl)]
          rw [show (nI c) + 1 = nI (c + 1) from (q_addP rfl rfl)]
          refine G_fg [some (.ref 62), some (.int (nI len)), some (.long F), none, some (.int (nI i)), some (.int (nI (p + 1))), some (.int (nI (c + 1))), none] (by repeat (first | exact trivial | refine ⟨rfl, ?_⟩)) ?_
          exact ih (p + 1) (c + 1) j (by omega) (by omega) (by omega) (by omega)
      | some k =>
        rw [hf] at hch
        obtain ⟨hkn, hfk⟩ := y_pkN_lt n 0 k hf
        obtain ⟨z1, z2, z3, z4, z5⟩ := hz.2.2 k (by omega)
        have hfl := y_fit_le hfk
        cases j with
        | zero =>
          refine G_st (L := 89) (k := 2) (32, [some (.ref 62), some (.int (nI len)), some (.long F), none, some (.int (nI i)), some (.int (nI p)), some (.int (nI c)), none], [.int (nI len), .int (nI p)], qS sw gc K J) (q_hn _ _ _ _) rfl ?_
          refine G_icmp_ge 84 rfl rfl (fun h9 => absurd h9 (nI_ge (by omega) (by omega))) (fun _ => ?_)
          refine G_st (L := 89) (k := 4) (40, [some (.ref 62), some (.int (nI len)), some (.long F), none, some (.int (nI i)), some (.int (nI p)), some (.int (nI c)), none], [.long F, .int (nI len), .int (nI p), .ref 62], qS sw gc K J) (q_hn _ _ _ _) rfl ?_
          refine G_callV (b := 62) (ci := 9) (as := [.int (nI p), .int (nI len), .long F]) (rest := []) rfl rfl rfl (q_lt (by decide)) (by decide) rfl rfl (Nat.le_of_ble_eq_true rfl) hch (Nat.le_refl _) ?_
          refine G_st (L := 89) (k := 3) (49, [some (.ref 62), some (.int (nI len)), some (.long F), none, some (.int (nI i)), some (.int (nI p)), some (.int (nI c)), some (.int (nI k))], [.int (nI i), .int (nI c)], qS sw gc K J) (q_hn _ _ _ _) rfl ?_
          refine G_icmp_ne 55 rfl rfl (fun h9 => absurd (congrArg nI (by omega)) h9) (fun _ => ?_)
          refine G_st (L := 89) (k := 1) (54, [some (.ref 62), some (.int (nI len)), some (.long F), none, some (.int (nI i)), some (.int (nI p)), some (.int (nI c)), some (.int (nI k))], [.int (nI k)], qS sw gc K J) (q_hn _ _ _ _) rfl ?_
          exact G_iret rfl rfl rfl rfl
        | succ j =>
          refine G_st (L := 89) (k := 2) (32, [some (.ref 62), some (.int (nI len)), some (.long F), none, some (.int (nI i)), some (.int (nI p)), some (.int (nI c)), none], [.int (nI len), .int (nI p)], qS sw gc K J) (q_hn _ _ _ _) rfl ?_
          refine G_icmp_ge 84 rfl rfl (fun h9 => absurd h9 (nI_ge (by omega) (by omega))) (fun _ => ?_)
          refine G_st (L := 89) (k := 4) (40, [some (.ref 62), some (.int (nI len)), some (.long F), none, some (.int (nI i)), some (.int (nI p)), some (.int (nI c)), none], [.long F, .int (nI len), .int (nI p), .ref 62], qS sw gc K J) (q_hn _ _ _ _) rfl ?_
          refine G_callV (b := 62) (ci := 9) (as := [.int (nI p), .int (nI len), .long F]) (rest := []) rfl rfl rfl (q_lt (by decide)) (by decide) rfl rfl (Nat.le_of_ble_eq_true rfl) hch (Nat.le_refl _) ?_
          refine G_st (L := 89) (k := 3) (49, [some (.ref 62), some (.int (nI len)), some (.long F), none, some (.int (nI i)), some (.int (nI p)), some (.int (nI c)), some (.int (nI k))], [.int (nI i), .int (nI c)], qS sw gc K J) (q_hn _ _ _ _) rfl ?_
          refine G_icmp_ne 55 rfl rfl (fun _ => ?_) (fun h9 => absurd h9 (fun e9 => absurd ((nI_eq (by omega) (by omega)).mp e9) (by omega)))
          refine G_st (L := 89) (k := 3) (61, [some (.ref 62), some (.int (nI len)), some (.long F), none, some (.int (nI i)), some (.int (nI p)), some (.int (nI c)), some (.int (nI k))], [.int (-5), .int (nI k), .int (nI p)], qS sw gc K J) (q_hn _ _ _ _) rfl ?_
          refine G_icmp_ne 68 rfl rfl (fun _ => ?_) (fun h9 => absurd h9 (q_neN (by decide) (by omega)))
          refine G_st (L := 89) (k := 3) (74, [some (.ref 62), some (.int (nI len)), some (.long F), none, some (.int (nI i)), some (.int (nI p)), some (.int (nI c)), some (.int (nI k))], [.int (nI k), .ref 82, .int (nI p)], qS sw gc K J) (q_hn _ _ _ _) rfl ?_
          refine G_iald (i := 82) (n := 8) rfl rfl (q_lt (by decide)) (vp_in_nI (by omega) (by decide)) ?_
          rw [q_clamp (n := k) (by omega)]
          refine G_st (L := 89) (k := 4) (29, [some (.ref 62), some (.int (nI len)), some (.long F), none, some (.int (nI i)), some (.int ((nI p) + (K 82 k))), some (.int ((nI c) + 1)), some (.int (nI k))], [], qS sw gc K J) (q_hn _ _ _ _) rfl ?_
          rw [show (nI p) + (K 82 k) = nI (p + L k) from (q_addP rfl z1)]
          rw [show (nI c) + 1 = nI (c + 1) from (q_addP rfl rfl)]
          refine G_fg [some (.ref 62), some (.int (nI len)), some (.long F), none, some (.int (nI i)), some (.int (nI (p + L k))), some (.int (nI (c + 1))), none] (by repeat (first | exact trivial | refine ⟨rfl, ?_⟩)) ?_
          exact ih (p + L k) (c + 1) j (by omega) (by omega) (by omega) (by omega)
    · rw [if_neg hp]
      refine G_st (L := 89) (k := 2) (32, [some (.ref 62), some (.int (nI len)), some (.long F), none, some (.int (nI i)), some (.int (nI p)), some (.int (nI c)), none], [.int (nI len), .int (nI p)], qS sw gc K J) (q_hn _ _ _ _) rfl ?_
      refine G_icmp_ge 84 rfl rfl (fun _ => ?_) (fun h9 => absurd (nI_le (by omega) (by omega)) h9)
      refine G_st (L := 89) (k := 1) (86, [some (.ref 62), some (.int (nI len)), some (.long F), none, some (.int (nI i)), some (.int (nI p)), some (.int (nI c)), none], [.int (-4)], qS sw gc K J) (q_hn _ _ _ _) rfl ?_
      exact G_iret rfl rfl rfl rfl
theorem r_split {d : Nat} {sw : Bool} {gc : Nat} {I : Nat → Nat → Int32} {J : Nat → Nat → Int64} {n len : Nat} {L P : Nat → Nat} {F : Int64} (hz : r_Sz I n L P) (hlen : len ≤ 40) (hl1 : 1 ≤ len) (hbl : f_r_isBlock (lN len) F = 1) {i : Nat} (hi : i < 2 ^ 31) : GM (d + 2) 135 [.ref 62, .int (nI len), .long F, .int (nI i)] (qS sw gc I J) (some (.int (y_nth (y_ps L P n F len) i))) (qS sw gc (r_mo I L P n len F) J) := by
  refine GM_of (by decide) (Nat.le_refl _) (Nat.le_of_ble_eq_true rfl) trivial ?_
  refine G_st (L := 89) (k := 0) (0, [some (.ref 62), some (.int (nI len)), some (.long F), none, some (.int (nI i)), none, none, none], [], qS sw gc I J) (q_hn _ _ _ _) rfl ?_
  refine G_st (L := 89) (k := 3) (3, [some (.ref 62), some (.int (nI len)), some (.long F), none, some (.int (nI i)), none, none, none], [.long F, .long (Int32.toInt64 (nI len))], qS sw gc I J) (q_hn _ _ _ _) rfl ?_
  rw [show Int32.toInt64 (nI len) = lN len from (q_i2lP rfl (by omega))]
  refine G_callS (as := [.long (lN len), .long F]) (rest := []) rfl rfl rfl (Nat.le_of_ble_eq_true rfl) (GM_r (r2 := 1) r_isBlock hbl) (Nat.le_refl _) ?_
  refine G_st (L := 89) (k := 0) (6, [some (.ref 62), some (.int (nI len)), some (.long F), none, some (.int (nI i)), none, none, none], [.int 1], qS sw gc I J) (q_hn _ _ _ _) rfl ?_
  refine G_if_eq 14 rfl rfl (fun h9 => absurd h9 (by decide)) (fun _ => ?_)
  refine G_st (L := 89) (k := 1) (11, [some (.ref 62), some (.int (nI len)), some (.long F), none, some (.int (nI i)), none, none, none], [.int (nI i)], qS sw gc I J) (q_hn _ _ _ _) rfl ?_
  refine G_if_ge 16 rfl rfl (fun _ => ?_) (fun h9 => absurd (nI_pos' hi) h9)
  refine G_st (L := 89) (k := 3) (19, [some (.ref 62), some (.int (nI len)), some (.long F), none, some (.int (nI i)), none, none, none], [.long F, .int (nI len), .ref 62], qS sw gc I J) (q_hn _ _ _ _) rfl ?_
  refine G_callV (b := 62) (ci := 9) (as := [.int (nI len), .long F]) (rest := []) rfl rfl rfl (q_lt (by decide)) (by decide) rfl rfl (Nat.le_of_ble_eq_true rfl) (r_mostOf hz hlen hl1) (Nat.le_refl _) ?_
  refine G_st (L := 89) (k := 5) (29, [some (.ref 62), some (.int (nI len)), some (.long F), none, some (.int (nI i)), some (.int 0), some (.int 0), none], [], qS sw gc (r_mo I L P n len F) J) (q_hn _ _ _ _) rfl ?_
  exact r_sp_loop (r_mo_Sz hz) hlen hi (fun q hq => r_mo_at hq) len 0 0 i (by omega) (by omega) (by omega) (by omega)
theorem r_splitI {d : Nat} {sw : Bool} {gc : Nat} {I : Nat → Nat → Int32} {J : Nat → Nat → Int64} {y x : Int32} {F : Int64} (hx : x < 0) : GM (d + 2) 135 [.ref 62, .int y, .long F, .int x] (qS sw gc I J) (some (.int (-1))) (qS sw gc I J) := by
  refine GM_of (by decide) (Nat.le_refl _) (Nat.le_of_ble_eq_true rfl) trivial ?_
  refine G_st (L := 89) (k := 0) (0, [some (.ref 62), some (.int y), some (.long F), none, some (.int x), none, none, none], [], qS sw gc I J) (q_hn _ _ _ _) rfl ?_
  refine G_st (L := 89) (k := 3) (3, [some (.ref 62), some (.int y), some (.long F), none, some (.int x), none, none, none], [.long F, .long (Int32.toInt64 y)], qS sw gc I J) (q_hn _ _ _ _) rfl ?_
  refine G_callS (as := [.long (Int32.toInt64 y), .long F]) (rest := []) rfl rfl rfl (Nat.le_of_ble_eq_true rfl) r_isBlock (Nat.le_refl _) ?_
  refine G_st (L := 89) (k := 0) (6, [some (.ref 62), some (.int y), some (.long F), none, some (.int x), none, none, none], [.int (f_r_isBlock (Int32.toInt64 y) F)], qS sw gc I J) (q_hn _ _ _ _) rfl ?_
  refine G_if_eq 14 rfl rfl (fun h1 => ?_) (fun h1 => ?_)
  · skip
    refine G_st (L := 89) (k := 1) (15, [some (.ref 62), some (.int y), some (.long F), none, some (.int x), none, none, none], [.int (-1)], qS sw gc I J) (q_hn _ _ _ _) rfl ?_
    exact G_iret rfl rfl rfl rfl
  · skip
    refine G_st (L := 89) (k := 1) (11, [some (.ref 62), some (.int y), some (.long F), none, some (.int x), none, none, none], [.int x], qS sw gc I J) (q_hn _ _ _ _) rfl ?_
    refine G_if_ge 16 rfl rfl (fun h9 => absurd h9 (Int32.not_le.mpr hx)) (fun _ => ?_)
    refine G_st (L := 89) (k := 1) (15, [some (.ref 62), some (.int y), some (.long F), none, some (.int x), none, none, none], [.int (-1)], qS sw gc I J) (q_hn _ _ _ _) rfl ?_
    exact G_iret rfl rfl rfl rfl
theorem r_splitB {d : Nat} {sw : Bool} {gc : Nat} {I : Nat → Nat → Int32} {J : Nat → Nat → Int64} {y x : Int32} {F : Int64} (hbl : f_r_isBlock (Int32.toInt64 y) F = 0) : GM (d + 2) 135 [.ref 62, .int y, .long F, .int x] (qS sw gc I J) (some (.int (-1))) (qS sw gc I J) := by
  refine GM_of (by decide) (Nat.le_refl _) (Nat.le_of_ble_eq_true rfl) trivial ?_
  refine G_st (L := 89) (k := 0) (0, [some (.ref 62), some (.int y), some (.long F), none, some (.int x), none, none, none], [], qS sw gc I J) (q_hn _ _ _ _) rfl ?_
  refine G_st (L := 89) (k := 3) (3, [some (.ref 62), some (.int y), some (.long F), none, some (.int x), none, none, none], [.long F, .long (Int32.toInt64 y)], qS sw gc I J) (q_hn _ _ _ _) rfl ?_
  refine G_callS (as := [.long (Int32.toInt64 y), .long F]) (rest := []) rfl rfl rfl (Nat.le_of_ble_eq_true rfl) (GM_r (r2 := 0) r_isBlock hbl) (Nat.le_refl _) ?_
  refine G_st (L := 89) (k := 0) (6, [some (.ref 62), some (.int y), some (.long F), none, some (.int x), none, none, none], [.int 0], qS sw gc I J) (q_hn _ _ _ _) rfl ?_
  refine G_if_eq 14 rfl rfl (fun _ => ?_) (fun h9 => absurd h9 (by decide))
  refine G_st (L := 89) (k := 1) (15, [some (.ref 62), some (.int y), some (.long F), none, some (.int x), none, none, none], [.int (-1)], qS sw gc I J) (q_hn _ _ _ _) rfl ?_
  exact G_iret rfl rfl rfl rfl
