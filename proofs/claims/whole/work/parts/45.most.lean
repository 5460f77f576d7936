theorem q_uu {α : Type} (f : Nat → Nat → α) (i k : Nat) (x y : α) : q_u (q_u f i k x) i k y = q_u f i k y := by
  funext a b
  unfold q_u
  split
  · rfl
  · rfl
def y_st (L P b : Nat → Nat) (F : Int64) (len p k a : Nat) : Nat := cond (y_fit F len p (L k)) (if P k + b (p + L k) ≤ a then a else P k + b (p + L k)) a
def y_in (L P b : Nat → Nat) (F : Int64) (len p : Nat) : Nat → Nat → Nat → Nat
  | 0, _, a => a
  | m + 1, k, a => y_in L P b F len p m (k + 1) (y_st L P b F len p k a)
def y_out (L P : Nat → Nat) (n : Nat) (F : Int64) (len : Nat) : Nat → (Nat → Nat) → (Nat → Nat)
  | 0, b => b
  | p + 1, b => y_out L P n F len p (fun q => if q = p then y_in L P b F len p n 0 (b (p + 1)) else b q)
def y_dp (L P : Nat → Nat) (n : Nat) (F : Int64) (len : Nat) : Nat → Nat := y_out L P n F len len (fun _ => 0)
def y_ok (b : Nat → Nat) (len p : Nat) : Prop := ∀ q, p ≤ q → q ≤ len → b q ≤ 200 * (len - q)
def r_Sz (I : Nat → Nat → Int32) (n : Nat) (L P : Nat → Nat) : Prop := I 62 32 = nI n ∧ n ≤ 8 ∧ ∀ k, k < n → I 82 k = nI (L k) ∧ 1 ≤ L k ∧ L k ≤ 20 ∧ I 83 k = nI (P k) ∧ P k ≤ 200
def y_lp (n : Nat) (L P : Nat → Nat) : Prop := ∀ k, k < n → 1 ≤ L k ∧ L k ≤ 20 ∧ P k ≤ 200
theorem r_Sz.lp {I : Nat → Nat → Int32} {n : Nat} {L P : Nat → Nat} (h : r_Sz I n L P) : y_lp n L P := fun k hk => ⟨(h.2.2 k hk).2.1, (h.2.2 k hk).2.2.1, (h.2.2 k hk).2.2.2.2⟩
theorem r_Sz.upd {I : Nat → Nat → Int32} {n : Nat} {L P : Nat → Nat} (h : r_Sz I n L P) {r b : Nat} {v : Int32} (h1 : ¬ (r = 62 ∧ b = 32)) (h2 : r ≠ 82 ∧ r ≠ 83) : r_Sz (q_u I r b v) n L P := by
  refine ⟨by rw [q_un _ _ (by omega)]; exact h.1, h.2.1, fun k hk => ?_⟩
  rw [q_un _ _ (by omega), q_un _ _ (by omega)]
  exact h.2.2 k hk
theorem y_fit_le {F : Int64} {len p l : Nat} (h : y_fit F len p l = true) : p + l ≤ len := by
  unfold y_fit at h
  exact of_decide_eq_true (Bool.and_eq_true_iff.mp h).1
theorem y_st_le {L P b : Nat → Nat} {F : Int64} {len p n k a : Nat} (hlp : y_lp n L P) (hb : y_ok b len (p + 1)) (hk : k < n) (hp : p < len) (ha : a ≤ 200 * (len - p)) : y_st L P b F len p k a ≤ 200 * (len - p) := by
  unfold y_st
  cases hf : y_fit F len p (L k) with
  | false => exact ha
  | true =>
    have h1 := y_fit_le hf
    obtain ⟨h2, h3, h4⟩ := hlp k hk
    have h5 := hb (p + L k) (by omega) h1
    simp only [cond_true]
    split
    · exact ha
    · omega
theorem y_in_le {L P b : Nat → Nat} {F : Int64} {len p n : Nat} (hlp : y_lp n L P) (hb : y_ok b len (p + 1)) (hp : p < len) : ∀ (m k a : Nat), k + m ≤ n → a ≤ 200 * (len - p) → y_in L P b F len p m k a ≤ 200 * (len - p)
  | 0, _, _, _, ha => ha
  | m + 1, k, a, h, ha => y_in_le hlp hb hp m (k + 1) _ (by omega) (y_st_le hlp hb (by omega) hp ha)
theorem y_out_ge {L P : Nat → Nat} {n : Nat} {F : Int64} {len : Nat} : ∀ (p : Nat) (b : Nat → Nat) (q : Nat), p ≤ q → y_out L P n F len p b q = b q
  | 0, _, _, _ => rfl
  | p + 1, b, q, h => by
    unfold y_out
    rw [y_out_ge p _ q (by omega), if_neg (by omega)]
theorem y_ok_s {L P b : Nat → Nat} {F : Int64} {len p n : Nat} (hlp : y_lp n L P) (hb : y_ok b len (p + 1)) (hp : p < len) : y_ok (fun q => if q = p then y_in L P b F len p n 0 (b (p + 1)) else b q) len p := by
  intro q h1 h2
  by_cases h : q = p
  · subst h
    show (if q = q then _ else _) ≤ _
    rw [if_pos rfl]
    have h3 := hb (q + 1) (by omega) (by omega)
    exact y_in_le hlp hb hp n 0 _ (by omega) (by omega)
  · show (if q = p then _ else _) ≤ _
    rw [if_neg h]
    exact hb q (by omega) h2
theorem y_out_ok {L P : Nat → Nat} {n : Nat} {F : Int64} {len : Nat} (hlp : y_lp n L P) : ∀ (p : Nat) (b : Nat → Nat), p ≤ len → y_ok b len p → y_ok (y_out L P n F len p b) len 0
  | 0, _, _, h => h
  | p + 1, b, hp, h => y_out_ok hlp p _ (by omega) (y_ok_s hlp h (by omega))
theorem y_dp_ok {L P : Nat → Nat} {n : Nat} {F : Int64} {len : Nat} (hlp : y_lp n L P) : y_ok (y_dp L P n F len) len 0 := y_out_ok hlp len _ (Nat.le_refl _) (fun _ _ _ => Nat.zero_le _)
theorem r_in_loop {d : Nat} {sw : Bool} {gc : Nat} {J : Nat → Nat → Int64} {n len p : Nat} {L P b : Nat → Nat} {F : Int64} (hlen : len ≤ 40) (hp : p < len) (hb : y_ok b len (p + 1)) {r : Int32} {Iz : Nat → Nat → Int32} : ∀ (m k a : Nat) (K : Nat → Nat → Int32), k + m = n → r_Sz K n L P → (∀ q, p < q → q ≤ len → K 85 q = nI (b q)) → K 85 p = nI a → a ≤ 200 * (len - p) → G (d + 1) 132 (120, [some (.ref 62), some (.int (nI len)), some (.long F), none, some (.int (nI p)), some (.int (nI n)), none], [], qS sw gc (q_u K 85 p (nI (y_in L P b F len p m k a))) J) (some (.int r)) (qS sw gc Iz J) → G (d + 1) 132 (36, [some (.ref 62), some (.int (nI len)), some (.long F), none, some (.int (nI p)), some (.int (nI k)), none], [], qS sw gc K J) (some (.int r)) (qS sw gc Iz J) := by
  intro m
  induction m with
  | zero =>
    intro k a K h hz hr ha hal g
    obtain rfl : k = n := by omega
    have hn8 := hz.2.1
    rw [show y_in L P b F len p 0 k a = a from rfl, ← ha, q_uid] at g
    refine G_st (L := 89) (k := 3) (42, [some (.ref 62), some (.int (nI len)), some (.long F), none, some (.int (nI p)), some (.int (nI k)), none], [.int (K 62 32), .int (nI k)], qS sw gc K J) (q_hn _ _ _ _) rfl ?_
    rw [show K 62 32 = nI k from hz.1]
    refine G_icmp_ge 120 rfl rfl (fun _ => ?_) (fun h9 => absurd (nI_le (Nat.le_refl _) (by omega)) h9)
    exact g
  | succ m ih =>
    intro k a K h hz hr ha hal g
    have hn8 := hz.2.1
    obtain ⟨z1, z2, z3, z4, z5⟩ := hz.2.2 k (by omega)
    have hst := y_st_le (F := F) hz.lp hb (k := k) (by omega) hp hal
    rw [y_in] at g
    cases hf : y_fit F len p (L k) with
    | false =>
      rw [show y_st L P b F len p k a = a by rw [y_st, hf]; rfl] at g
      refine G_st (L := 89) (k := 3) (42, [some (.ref 62), some (.int (nI len)), some (.long F), none, some (.int (nI p)), some (.int (nI k)), none], [.int (K 62 32), .int (nI k)], qS sw gc K J) (q_hn _ _ _ _) rfl ?_
      rw [show K 62 32 = nI n from hz.1]
      refine G_icmp_ge 120 rfl rfl (fun h9 => absurd h9 (nI_ge (by omega) (by omega))) (fun _ => ?_)
      refine G_st (L := 89) (k := 5) (52, [some (.ref 62), some (.int (nI len)), some (.long F), none, some (.int (nI p)), some (.int (nI k)), none], [.long F, .int (nI len), .int (nI p), .int (nI k), .ref 62], qS sw gc K J) (q_hn _ _ _ _) rfl ?_
      refine G_callV (b := 62) (ci := 9) (as := [.int (nI k), .int (nI p), .int (nI len), .long F]) (rest := []) rfl rfl rfl (q_lt (by decide)) (by decide) rfl rfl (Nat.le_of_ble_eq_true rfl) (GM_r (r2 := 0) (r_fits (by omega) z1 z2 z3 (by omega) hlen) (by rw [hf]; rfl)) (Nat.le_refl _) ?_
      refine G_st (L := 89) (k := 0) (55, [some (.ref 62), some (.int (nI len)), some (.long F), none, some (.int (nI p)), some (.int (nI k)), none], [.int 0], qS sw gc K J) (q_hn _ _ _ _) rfl ?_
      refine G_if_eq 114 rfl rfl (fun _ => ?_) (fun h9 => absurd h9 (by decide))
      refine G_st (L := 89) (k := 2) (36, [some (.ref 62), some (.int (nI len)), some (.long F), none, some (.int (nI p)), some (.int ((nI k) + 1)), none], [], qS sw gc K J) (q_hn _ _ _ _) rfl ?_
      rw [show (nI k) + 1 = nI (k + 1) from (q_addP rfl rfl)]
      exact ih (k + 1) a K (by omega) hz hr ha hal g
    | true =>
      have hfl := y_fit_le hf
      have hq := hr (p + L k) (by omega) hfl
      have hbq := hb (p + L k) (by omega) hfl
      by_cases hv : P k + b (p + L k) ≤ a
      · rw [show y_st L P b F len p k a = a by rw [y_st, hf]; exact if_pos hv] at g
        refine G_st (L := 89) (k := 3) (42, [some (.ref 62), some (.int (nI len)), some (.long F), none, some (.int (nI p)), some (.int (nI k)), none], [.int (K 62 32), .int (nI k)], qS sw gc K J) (q_hn _ _ _ _) rfl ?_
        rw [show K 62 32 = nI n from hz.1]
        refine G_icmp_ge 120 rfl rfl (fun h9 => absurd h9 (nI_ge (by omega) (by omega))) (fun _ => ?_)
        refine G_st (L := 89) (k := 5) (52, [some (.ref 62), some (.int (nI len)), some (.long F), none, some (.int (nI p)), some (.int (nI k)), none], [.long F, .int (nI len), .int (nI p), .int (nI k), .ref 62], qS sw gc K J) (q_hn _ _ _ _) rfl ?_
        refine G_callV (b := 62) (ci := 9) (as := [.int (nI k), .int (nI p), .int (nI len), .long F]) (rest := []) rfl rfl rfl (q_lt (by decide)) (by decide) rfl rfl (Nat.le_of_ble_eq_true rfl) (GM_r (r2 := 1) (r_fits (by omega) z1 z2 z3 (by omega) hlen) (by rw [hf]; rfl)) (Nat.le_refl _) ?_
        refine G_st (L := 89) (k := 0) (55, [some (.ref 62), some (.int (nI len)), some (.long F), none, some (.int (nI p)), some (.int (nI k)), none], [.int 1], qS sw gc K J) (q_hn _ _ _ _) rfl ?_
        refine G_if_eq 114 rfl rfl (fun h9 => absurd h9 (by decide)) (fun _ => ?_)
        refine G_st (L := 89) (k := 3) (64, [some (.ref 62), some (.int (nI len)), some (.long F), none, some (.int (nI p)), some (.int (nI k)), none], [.int (nI k), .ref 83], qS sw gc K J) (q_hn _ _ _ _) rfl ?_
        refine G_iald (i := 83) (n := 8) rfl rfl (q_lt (by decide)) (vp_in_nI (by omega) (by decide)) ?_
        rw [q_clamp (n := k) (by omega)]
        refine G_st (L := 89) (k := 6) (77, [some (.ref 62), some (.int (nI len)), some (.long F), none, some (.int (nI p)), some (.int (nI k)), none], [.int (nI k), .ref 82, .int (nI p), .ref 85, .int (K 83 k)], qS sw gc K J) (q_hn _ _ _ _) rfl ?_
        rw [show K 83 k = nI (P k) from z4]
        refine G_iald (i := 82) (n := 8) rfl rfl (q_lt (by decide)) (vp_in_nI (by omega) (by decide)) ?_
        rw [q_clamp (n := k) (by omega)]
        refine G_st (L := 89) (k := 1) (79, [some (.ref 62), some (.int (nI len)), some (.long F), none, some (.int (nI p)), some (.int (nI k)), none], [.int ((nI p) + (K 82 k)), .ref 85, .int (nI (P k))], qS sw gc K J) (q_hn _ _ _ _) rfl ?_
        rw [show (nI p) + (K 82 k) = nI (p + L k) from (q_addP rfl z1)]
        refine G_iald (i := 85) (n := 41) rfl rfl (q_lt (by decide)) (vp_in_nI (by omega) (by decide)) ?_
        rw [q_clamp (n := p + L k) (by omega)]
        refine G_st (L := 89) (k := 9) (97, [some (.ref 62), some (.int (nI len)), some (.long F), none, some (.int (nI p)), some (.int (nI k)), some (.int ((nI (P k)) + (K 85 (p + L k))))], [.int (nI p), .ref 85, .int ((nI (P k)) + (K 85 (p + L k))), .int (nI p), .ref 85], qS sw gc K J) (q_hn _ _ _ _) rfl ?_
        rw [show (nI (P k)) + (K 85 (p + L k)) = nI (P k + b (p + L k)) from (q_addP rfl hq)]
        refine G_iald (i := 85) (n := 41) rfl rfl (q_lt (by decide)) (vp_in_nI (by omega) (by decide)) ?_
        rw [q_clamp (n := p) (by omega)]
        refine G_st (L := 89) (k := 0) (98, [some (.ref 62), some (.int (nI len)), some (.long F), none, some (.int (nI p)), some (.int (nI k)), some (.int (nI (P k + b (p + L k))))], [.int (K 85 p), .int (nI (P k + b (p + L k))), .int (nI p), .ref 85], qS sw gc K J) (q_hn _ _ _ _) rfl ?_
        rw [show K 85 p = nI a from ha]
        refine G_icmp_le 106 rfl rfl (fun _ => ?_) (fun h9 => absurd (nI_le hv (by omega)) h9)
        refine G_st (L := 89) (k := 3) (112, [some (.ref 62), some (.int (nI len)), some (.long F), none, some (.int (nI p)), some (.int (nI k)), some (.int (nI (P k + b (p + L k))))], [.int (nI p), .ref 85, .int (nI p), .ref 85], qS sw gc K J) (q_hn _ _ _ _) rfl ?_
        refine G_iald (i := 85) (n := 41) rfl rfl (q_lt (by decide)) (vp_in_nI (by omega) (by decide)) ?_
        rw [q_clamp (n := p) (by omega)]
        refine G_st (L := 89) (k := 0) (113, [some (.ref 62), some (.int (nI len)), some (.long F), none, some (.int (nI p)), some (.int (nI k)), some (.int (nI (P k + b (p + L k))))], [.int (K 85 p), .int (nI p), .ref 85], qS sw gc K J) (q_hn _ _ _ _) rfl ?_
        rw [show K 85 p = nI a from ha]
        refine G_iast (i := 85) (n := 41) rfl rfl (q_lt (by decide)) (vp_in_nI (by omega) (by decide)) ?_
        rw [q_clamp (n := p) (by omega)]
        refine G_st (L := 89) (k := 2) (36, [some (.ref 62), some (.int (nI len)), some (.long F), none, some (.int (nI p)), some (.int ((nI k) + 1)), some (.int (nI (P k + b (p + L k))))], [], qS sw gc (q_u K 85 p (nI a)) J) (q_hn _ _ _ _) rfl ?_
        rw [show (nI k) + 1 = nI (k + 1) from (q_addP rfl rfl)]
        refine G_fg [some (.ref 62), some (.int (nI len)), some (.long F), none, some (.int (nI p)), some (.int (nI (k + 1))), none] (by repeat (first | exact trivial | refine ⟨rfl, ?_⟩)) ?_
        rw [show q_u K 85 p (nI a) = K by rw [← ha]; exact q_uid _ _ _]
        exact ih (k + 1) a K (by omega) hz hr ha hal g
      · have est : y_st L P b F len p k a = P k + b (p + L k) := by rw [y_st, hf]; exact if_neg hv
        rw [est] at g hst
        refine G_st (L := 89) (k := 3) (42, [some (.ref 62), some (.int (nI len)), some (.long F), none, some (.int (nI p)), some (.int (nI k)), none], [.int (K 62 32), .int (nI k)], qS sw gc K J) (q_hn _ _ _ _) rfl ?_
        rw [show K 62 32 = nI n from hz.1]
        refine G_icmp_ge 120 rfl rfl (fun h9 => absurd h9 (nI_ge (by omega) (by omega))) (fun _ => ?_)
        refine G_st (L := 89) (k := 5) (52, [some (.ref 62), some (.int (nI len)), some (.long F), none, some (.int (nI p)), some (.int (nI k)), none], [.long F, .int (nI len), .int (nI p), .int (nI k), .ref 62], qS sw gc K J) (q_hn _ _ _ _) rfl ?_
        refine G_callV (b := 62) (ci := 9) (as := [.int (nI k), .int (nI p), .int (nI len), .long F]) (rest := []) rfl rfl rfl (q_lt (by decide)) (by decide) rfl rfl (Nat.le_of_ble_eq_true rfl) (GM_r (r2 := 1) (r_fits (by omega) z1 z2 z3 (by omega) hlen) (by rw [hf]; rfl)) (Nat.le_refl _) ?_
        refine G_st (L := 89) (k := 0) (55, [some (.ref 62), some (.int (nI len)), some (.long F), none, some (.int (nI p)), some (.int (nI k)), none], [.int 1], qS sw gc K J) (q_hn _ _ _ _) rfl ?_
        refine G_if_eq 114 rfl rfl (fun h9 => absurd h9 (by decide)) (fun _ => ?_)
        refine G_st (L := 89) (k := 3) (64, [some (.ref 62), some (.int (nI len)), some (.long F), none, some (.int (nI p)), some (.int (nI k)), none], [.int (nI k), .ref 83], qS sw gc K J) (q_hn _ _ _ _) rfl ?_
        refine G_iald (i := 83) (n := 8) rfl rfl (q_lt (by decide)) (vp_in_nI (by omega) (by decide)) ?_
        rw [q_clamp (n := k) (by omega)]
        refine G_st (L := 89) (k := 6) (77, [some (.ref 62), some (.int (nI len)), some (.long F), none, some (.int (nI p)), some (.int (nI k)), none], [.int (nI k), .ref 82, .int (nI p), .ref 85, .int (K 83 k)], qS sw gc K J) (q_hn _ _ _ _) rfl ?_
        rw [show K 83 k = nI (P k) from z4]
        refine G_iald (i := 82) (n := 8) rfl rfl (q_lt (by decide)) (vp_in_nI (by omega) (by decide)) ?_
        rw [q_clamp (n := k) (by omega)]
        refine G_st (L := 89) (k := 1) (79, [some (.ref 62), some (.int (nI len)), some (.long F), none, some (.int (nI p)), some (.int (nI k)), none], [.int ((nI p) + (K 82 k)), .ref 85, .int (nI (P k))], qS sw gc K J) (q_hn _ _ _ _) rfl ?_
        rw [show (nI p) + (K 82 k) = nI (p + L k) from (q_addP rfl z1)]
        refine G_iald (i := 85) (n := 41) rfl rfl (q_lt (by decide)) (vp_in_nI (by omega) (by decide)) ?_
        rw [q_clamp (n := p + L k) (by omega)]
        refine G_st (L := 89) (k := 9) (97, [some (.ref 62), some (.int (nI len)), some (.long F), none, some (.int (nI p)), some (.int (nI k)), some (.int ((nI (P k)) + (K 85 (p + L k))))], [.int (nI p), .ref 85, .int ((nI (P k)) + (K 85 (p + L k))), .int (nI p), .ref 85], qS sw gc K J) (q_hn _ _ _ _) rfl ?_
        rw [show (nI (P k)) + (K 85 (p + L k)) = nI (P k + b (p + L k)) from (q_addP rfl hq)]
        refine G_iald (i := 85) (n := 41) rfl rfl (q_lt (by decide)) (vp_in_nI (by omega) (by decide)) ?_
        rw [q_clamp (n := p) (by omega)]
        refine G_st (L := 89) (k := 0) (98, [some (.ref 62), some (.int (nI len)), some (.long F), none, some (.int (nI p)), some (.int (nI k)), some (.int (nI (P k + b (p + L k))))], [.int (K 85 p), .int (nI (P k + b (p + L k))), .int (nI p), .ref 85], qS sw gc K J) (q_hn _ _ _ _) rfl ?_
        rw [show K 85 p = nI a from ha]
        refine G_icmp_le 106 rfl rfl (fun h9 => absurd h9 (nI_ge (by omega) (by omega))) (fun _ => ?_)
        refine G_st (L := 89) (k := 2) (113, [some (.ref 62), some (.int (nI len)), some (.long F), none, some (.int (nI p)), some (.int (nI k)), some (.int (nI (P k + b (p + L k))))], [.int (nI (P k + b (p + L k))), .int (nI p), .ref 85], qS sw gc K J) (q_hn _ _ _ _) rfl ?_
        refine G_iast (i := 85) (n := 41) rfl rfl (q_lt (by decide)) (vp_in_nI (by omega) (by decide)) ?_
        rw [q_clamp (n := p) (by omega)]
        refine G_st (L := 89) (k := 2) (36, [some (.ref 62), some (.int (nI len)), some (.long F), none, some (.int (nI p)), some (.int ((nI k) + 1)), some (.int (nI (P k + b (p + L k))))], [], qS sw gc (q_u K 85 p (nI (P k + b (p + L k)))) J) (q_hn _ _ _ _) rfl ?_
        rw [show (nI k) + 1 = nI (k + 1) from (q_addP rfl rfl)]
        refine G_fg [some (.ref 62), some (.int (nI len)), some (.long F), none, some (.int (nI p)), some (.int (nI (k + 1))), none] (by repeat (first | exact trivial | refine ⟨rfl, ?_⟩)) ?_
        refine ih (k + 1) (P k + b (p + L k)) (q_u K 85 p (nI (P k + b (p + L k)))) (by omega) (hz.upd (by omega) (by omega)) (fun q h1 h2 => by rw [q_un _ _ (by omega)]; exact hr q h1 h2) (q_us _ _ _ _) hst ?_
        rw [q_uu]
        exact g
def r_l (K : Nat → Nat → Int32) (p : Nat) (B : Nat → Nat) : Nat → Nat → Int32 := fun a q => if a = 85 ∧ q < p then nI (B q) else K a q
theorem r_l_0 (K : Nat → Nat → Int32) (B : Nat → Nat) : r_l K 0 B = K := by
  funext a q
  unfold r_l
  rw [if_neg (by omega)]
theorem r_l_s (K : Nat → Nat → Int32) (p x : Nat) (B : Nat → Nat) (h : B p = x) : r_l (q_u K 85 p (nI x)) p B = r_l K (p + 1) B := by
  funext a q
  unfold r_l q_u
  by_cases h1 : a = 85 ∧ q < p
  · rw [if_pos h1, if_pos (by omega)]
  · rw [if_neg h1]
    by_cases h2 : a = 85 ∧ q = p
    · rw [if_pos h2, if_pos (by omega), h2.2, h]
    · rw [if_neg h2, if_neg (by omega)]
theorem r_out_loop {d : Nat} {sw : Bool} {gc : Nat} {J : Nat → Nat → Int64} {n len : Nat} {L P : Nat → Nat} {F : Int64} (hlen : len ≤ 40) : ∀ (p : Nat) (b : Nat → Nat) (K : Nat → Nat → Int32) (x : Int32), p ≤ len → x + 1 = nI p → r_Sz K n L P → (∀ q, p ≤ q → q ≤ len → K 85 q = nI (b q)) → y_ok b len p → G (d + 1) 132 (12, [some (.ref 62), some (.int (nI len)), some (.long F), none, some (.int x), none, none], [], qS sw gc K J) (some (.int (nI (y_out L P n F len p b 0)))) (qS sw gc (r_l K p (y_out L P n F len p b)) J) := by
  intro p
  induction p with
  | zero =>
    intro b K x hp hx hz hr hb
    obtain rfl : x = -1 := by
      have e : x + 1 = (-1 : Int32) + 1 := hx.trans (by decide)
      exact (Int32.add_left_inj 1).mp e
    rw [r_l_0, show y_out L P n F len 0 b 0 = b 0 from rfl]
    refine G_st (L := 89) (k := 1) (14, [some (.ref 62), some (.int (nI len)), some (.long F), none, some (.int (-1)), none, none], [.int (-1)], qS sw gc K J) (q_hn _ _ _ _) rfl ?_
    refine G_if_lt 126 rfl rfl (fun _ => ?_) (fun h9 => absurd h9 (by decide))
    refine G_st (L := 89) (k := 3) (131, [some (.ref 62), some (.int (nI len)), some (.long F), none, some (.int (-1)), none, none], [.int 0, .ref 85], qS sw gc K J) (q_hn _ _ _ _) rfl ?_
    refine G_iald (i := 85) (n := 41) rfl rfl (q_lt (by decide)) (by unfold vp_in; decide) ?_
    refine G_st (L := 89) (k := 0) (132, [some (.ref 62), some (.int (nI len)), some (.long F), none, some (.int (-1)), none, none], [.int (K 85 0)], qS sw gc K J) (q_hn _ _ _ _) rfl ?_
    exact G_iret rfl rfl (by rw [hr 0 (Nat.le_refl _) (Nat.zero_le _)]) rfl
  | succ p ih =>
    intro b K x hp hx hz hr hb
    obtain rfl : x = nI p := by
      have e : x + 1 = nI p + 1 := hx.trans (nI_1 p).symm
      exact (Int32.add_left_inj 1).mp e
    have hq1 := hr (p + 1) (Nat.le_refl _) hp
    have hb1 := hb (p + 1) (Nat.le_refl _) hp
    refine G_st (L := 89) (k := 1) (14, [some (.ref 62), some (.int (nI len)), some (.long F), none, some (.int (nI p)), none, none], [.int (nI p)], qS sw gc K J) (q_hn _ _ _ _) rfl ?_
    refine G_if_lt 126 rfl rfl (fun h9 => absurd h9 (nI_pos (by omega))) (fun _ => ?_)
    refine G_st (L := 89) (k := 8) (31, [some (.ref 62), some (.int (nI len)), some (.long F), none, some (.int (nI p)), none, none], [.int ((nI p) + 1), .ref 85, .int (nI p), .ref 85], qS sw gc K J) (q_hn _ _ _ _) rfl ?_
    rw [show (nI p) + 1 = nI (p + 1) from (q_addP rfl rfl)]
    refine G_iald (i := 85) (n := 41) rfl rfl (q_lt (by decide)) (vp_in_nI (by omega) (by decide)) ?_
    rw [q_clamp (n := p + 1) (by omega)]
    refine G_st (L := 89) (k := 0) (32, [some (.ref 62), some (.int (nI len)), some (.long F), none, some (.int (nI p)), none, none], [.int (K 85 (p + 1)), .int (nI p), .ref 85], qS sw gc K J) (q_hn _ _ _ _) rfl ?_
    rw [show K 85 (p + 1) = nI (b (p + 1)) from hq1]
    refine G_iast (i := 85) (n := 41) rfl rfl (q_lt (by decide)) (vp_in_nI (by omega) (by decide)) ?_
    rw [q_clamp (n := p) (by omega)]
    refine G_st (L := 89) (k := 2) (36, [some (.ref 62), some (.int (nI len)), some (.long F), none, some (.int (nI p)), some (.int 0), none], [], qS sw gc (q_u K 85 p (nI (b (p + 1)))) J) (q_hn _ _ _ _) rfl ?_
    refine r_in_loop hlen (by omega) hb n 0 (b (p + 1)) _ (by omega) (hz.upd (by omega) (by omega)) (fun q h1 h2 => by rw [q_un _ _ (by omega)]; exact hr q h1 h2) (q_us _ _ _ _) (by omega) ?_
    rw [q_uu]
    refine G_st (L := 89) (k := 2) (12, [some (.ref 62), some (.int (nI len)), some (.long F), none, some (.int ((nI p) + (-1))), some (.int (nI n)), none], [], qS sw gc (q_u K 85 p (nI (y_in L P b F len p n 0 (b (p + 1))))) J) (q_hn _ _ _ _) rfl ?_
    refine G_fg [some (.ref 62), some (.int (nI len)), some (.long F), none, some (.int ((nI p) + (-1))), none, none] (by repeat (first | exact trivial | refine ⟨rfl, ?_⟩)) ?_
    have hge := y_out_ge (L := L) (P := P) (n := n) (F := F) (len := len) p (fun q => if q = p then y_in L P b F len p n 0 (b (p + 1)) else b q) p (Nat.le_refl _)
    rw [y_out, ← r_l_s K p (y_in L P b F len p n 0 (b (p + 1))) _ (hge.trans (if_pos rfl))]
    refine ih _ _ _ (by omega) (q_m1 _) (hz.upd (by omega) (by omega)) ?_ (y_ok_s hz.lp hb (by omega))
    intro q h1 h2
    by_cases h3 : q = p
    · subst h3; rw [q_us, if_pos rfl]
    · rw [q_un _ _ (by omega), if_neg h3]; exact hr q (by omega) h2
def r_mo (I : Nat → Nat → Int32) (L P : Nat → Nat) (n len : Nat) (F : Int64) : Nat → Nat → Int32 := fun a q => if a = 85 ∧ q ≤ len then nI (y_dp L P n F len q) else I a q
theorem y_dp_end {L P : Nat → Nat} {n len : Nat} {F : Int64} : y_dp L P n F len len = 0 := y_out_ge len _ len (Nat.le_refl _)
theorem r_mo_eq {I : Nat → Nat → Int32} {L P : Nat → Nat} {n len : Nat} {F : Int64} : r_l (q_u I 85 len 0) len (y_dp L P n F len) = r_mo I L P n len F := by
  funext a q
  unfold r_l r_mo q_u
  by_cases h1 : a = 85 ∧ q < len
  · rw [if_pos h1, if_pos (by omega)]
  · rw [if_neg h1]
    by_cases h2 : a = 85 ∧ q = len
    · rw [if_pos h2, if_pos (by omega), h2.2, y_dp_end]; rfl
    · rw [if_neg h2, if_neg (by omega)]
theorem r_mo_un {I : Nat → Nat → Int32} {L P : Nat → Nat} {n len : Nat} {F : Int64} {a b : Nat} (h : a ≠ 85) : r_mo I L P n len F a b = I a b := by
  unfold r_mo
  rw [if_neg (by omega)]
theorem r_mo_at {I : Nat → Nat → Int32} {L P : Nat → Nat} {n len : Nat} {F : Int64} {q : Nat} (h : q ≤ len) : r_mo I L P n len F 85 q = nI (y_dp L P n F len q) := by
  unfold r_mo
  rw [if_pos ⟨rfl, h⟩]
theorem r_mo_Sz {I : Nat → Nat → Int32} {L P : Nat → Nat} {n len : Nat} {F : Int64} (h : r_Sz I n L P) : r_Sz (r_mo I L P n len F) n L P := by
  refine ⟨by rw [r_mo_un (by decide)]; exact h.1, h.2.1, fun k hk => ?_⟩
  rw [r_mo_un (by decide), r_mo_un (by decide)]
  exact h.2.2 k hk
theorem r_mostOf {d : Nat} {sw : Bool} {gc : Nat} {I : Nat → Nat → Int32} {J : Nat → Nat → Int64} {n len : Nat} {L P : Nat → Nat} {F : Int64} (hz : r_Sz I n L P) (hlen : len ≤ 40) (hl1 : 1 ≤ len) : GM (d + 1) 132 [.ref 62, .int (nI len), .long F] (qS sw gc I J) (some (.int (nI (y_dp L P n F len 0)))) (qS sw gc (r_mo I L P n len F) J) := by
  rw [← r_mo_eq]
  refine GM_of (by decide) (Nat.le_refl _) (Nat.le_of_ble_eq_true rfl) trivial ?_
  refine G_st (L := 89) (k := 4) (6, [some (.ref 62), some (.int (nI len)), some (.long F), none, none, none, none], [.int 0, .int (nI len), .ref 85], qS sw gc I J) (q_hn _ _ _ _) rfl ?_
  refine G_iast (i := 85) (n := 41) rfl rfl (q_lt (by decide)) (vp_in_nI (by omega) (by decide)) ?_
  rw [q_clamp (n := len) (by omega)]
  refine G_st (L := 89) (k := 4) (12, [some (.ref 62), some (.int (nI len)), some (.long F), none, some (.int ((nI len) - 1)), none, none], [], qS sw gc (q_u I 85 len 0) J) (q_hn _ _ _ _) rfl ?_
  rw [show (nI len) - 1 = nI (len - 1) from (q_subP rfl rfl (by omega))]
  refine r_out_loop (n := n) hlen len (fun _ => 0) (q_u I 85 len 0) _ (Nat.le_refl _) ?_ (hz.upd (by omega) (by omega)) ?_ (fun _ _ _ => Nat.zero_le _)
  · rw [nI_1]; congr 1; omega
  · intro q h1 h2; obtain rfl : q = len := by omega
    rw [q_us]; rfl
