def r_loA (K : Nat → Nat → Int32) (w : Nat) : Nat → Nat → Int32 := if K 64 1 = (-4) then K else if K 71 w - K 71 (w + 6) < K 64 1 then K else q_u K 72 (w + 6) 1
def r_loB (K : Nat → Nat → Int32) (w : Nat) : Nat → Nat → Int32 := if w < 24 then r_loA K w else K
def r_wk2 (K : Nat → Nat → Int32) (w k : Nat) : Nat → Nat → Int32 := r_loB (q_u (q_u (q_u K 71 w (K 71 w + 1)) 79 k (K 79 k + 1)) 62 36 (K 62 36 + 1)) w
def r_wl : List (Option Nat) → (Nat → Nat → Int32) → (Nat → Nat → Int32)
  | [], K => K
  | none :: t, K => r_wl t (q_u K 62 37 (K 62 37 + 1))
  | some k :: t, K => r_wl t (q_u K 84 k (K 84 k + 1))
def r_ear (K : Nat → Nat → Int32) (w k c : Nat) (e : Int32) : Int32 := (e + ((e * (r_pd K (K 70 w) c 0)) / 100)) + (K 78 k)
def r_off (K : Nat → Nat → Int32) (w k c : Nat) (e : Int32) : Int32 := ((r_ear K w k c e) * (r_lo K 3)) / 100
def r_wk1 (K : Nat → Nat → Int32) (k : Nat) (a o : Int32) : Nat → Nat → Int32 := if K 80 k = 0 then q_u (q_u (q_u (q_u K 62 31 (K 62 31 + o)) 75 k (K 75 k + (a - o))) 80 k 1) 75 k ((K 75 k + (a - o)) - (r_lo K 2 * K 74 k)) else q_u (q_u K 62 31 (K 62 31 + o)) 75 k (K 75 k + (a - o))
theorem r_wk_end {d : Nat} {sw : Bool} {gc : Nat} {J : Nat → Nat → Int64} {K : Nat → Nat → Int32} {k w : Nat} (hk : k < 8) (hw : w < 30) {a o : Int32} : G (d + 2) 137 (188, [some (.ref 62), some (.int (nI k)), none, none, none, some (.int (nI w)), none, some (.int a), some (.int o), none, none], [], qS sw gc K J) (some (.int (a - o))) (qS sw gc (r_wk2 K w k) J) := by
  by_cases h6 : w < 24
  · unfold r_wk2 r_loB
    rw [if_pos h6]
    have e64 : (q_u (q_u (q_u K 71 w (K 71 w + 1)) 79 k (K 79 k + 1)) 62 36 (K 62 36 + 1)) 64 1 = K 64 1 := by rw [q_un _ _ (by omega), q_un _ _ (by omega), q_un _ _ (by omega)]
    have e71 : (q_u (q_u (q_u K 71 w (K 71 w + 1)) 79 k (K 79 k + 1)) 62 36 (K 62 36 + 1)) 71 w = K 71 w + 1 := by rw [q_un _ _ (by omega), q_un _ _ (by omega), q_us]
    have e76 : (q_u (q_u (q_u K 71 w (K 71 w + 1)) 79 k (K 79 k + 1)) 62 36 (K 62 36 + 1)) 71 (w + 6) = K 71 (w + 6) := by rw [q_un _ _ (by omega), q_un _ _ (by omega), q_un _ _ (by omega)]
    refine G_st (L := 89) (k := 4) (195, [some (.ref 62), some (.int (nI k)), none, none, none, some (.int (nI w)), none, some (.int a), some (.int o), none, none], [.int (nI w), .ref 71, .int (nI w), .ref 71], qS sw gc K J) (q_hn _ _ _ _) rfl ?_
    refine G_iald (i := 71) (n := 30) rfl rfl (q_lt (by decide)) (vp_in_nI (by omega) (by decide)) ?_
    rw [q_clamp (n := w) (by omega)]
    refine G_st (L := 89) (k := 2) (198, [some (.ref 62), some (.int (nI k)), none, none, none, some (.int (nI w)), none, some (.int a), some (.int o), none, none], [.int ((K 71 w) + 1), .int (nI w), .ref 71], qS sw gc K J) (q_hn _ _ _ _) rfl ?_
    refine G_iast (i := 71) (n := 30) rfl rfl (q_lt (by decide)) (vp_in_nI (by omega) (by decide)) ?_
    rw [q_clamp (n := w) (by omega)]
    refine G_st (L := 89) (k := 4) (205, [some (.ref 62), some (.int (nI k)), none, none, none, some (.int (nI w)), none, some (.int a), some (.int o), none, none], [.int (nI k), .ref 79, .int (nI k), .ref 79], qS sw gc (q_u K 71 w ((K 71 w) + 1)) J) (q_hn _ _ _ _) rfl ?_
    refine G_iald (i := 79) (n := 8) rfl rfl (q_lt (by decide)) (vp_in_nI (by omega) (by decide)) ?_
    rw [q_clamp (n := k) (by omega)]
    rw [show q_i (qS sw gc (q_u K 71 w ((K 71 w) + 1)) J) 79 k = K 79 k from (show (q_u K 71 w ((K 71 w) + 1)) 79 k = K 79 k from q_un _ _ (by omega))]
    refine G_st (L := 89) (k := 2) (208, [some (.ref 62), some (.int (nI k)), none, none, none, some (.int (nI w)), none, some (.int a), some (.int o), none, none], [.int ((K 79 k) + 1), .int (nI k), .ref 79], qS sw gc (q_u K 71 w ((K 71 w) + 1)) J) (q_hn _ _ _ _) rfl ?_
    refine G_iast (i := 79) (n := 8) rfl rfl (q_lt (by decide)) (vp_in_nI (by omega) (by decide)) ?_
    rw [q_clamp (n := k) (by omega)]
    refine G_st (L := 89) (k := 2) (211, [some (.ref 62), some (.int (nI k)), none, none, none, some (.int (nI w)), none, some (.int a), some (.int o), none, none], [.ref 62, .ref 62], qS sw gc (q_u (q_u K 71 w ((K 71 w) + 1)) 79 k ((K 79 k) + 1)) J) (q_hn _ _ _ _) rfl ?_
    refine G_get (ci := 9) (k := 36) (i := 62) rfl rfl rfl (q_lt (by decide)) ?_
    rw [show q_av (qS sw gc (q_u (q_u K 71 w ((K 71 w) + 1)) 79 k ((K 79 k) + 1)) J) 62 (q_fty 9 36) 36 = .int (K 62 36) from congrArg Value.int (show (q_u (q_u K 71 w ((K 71 w) + 1)) 79 k ((K 79 k) + 1)) 62 36 = K 62 36 from (q_un _ _ (by omega)).trans (q_un _ _ (by omega)))]
    refine G_st (L := 89) (k := 7) (226, [some (.ref 62), some (.int (nI k)), none, none, none, some (.int (nI w)), none, some (.int a), some (.int o), none, none], [.int 30, .int ((nI w) + 6)], qS sw gc (q_u (q_u (q_u K 71 w ((K 71 w) + 1)) 79 k ((K 79 k) + 1)) 62 36 ((K 62 36) + 1)) J) (q_hn _ _ _ _) rfl ?_
    rw [show (nI w) + 6 = nI (w + 6) from (q_addP rfl rfl)]
    refine G_icmp_ge 278 rfl rfl (fun h9 => absurd h9 (nI_ge (b := 30) (by omega) (by decide))) (fun _ => ?_)
    refine G_st (L := 89) (k := 3) (234, [some (.ref 62), some (.int (nI k)), none, none, none, some (.int (nI w)), none, some (.int a), some (.int o), none, none], [.int 1, .ref 64], qS sw gc (q_u (q_u (q_u K 71 w ((K 71 w) + 1)) 79 k ((K 79 k) + 1)) 62 36 ((K 62 36) + 1)) J) (q_hn _ _ _ _) rfl ?_
    refine G_iald (i := 64) (n := 4) rfl rfl (q_lt (by decide)) (by unfold vp_in; decide) ?_
    rw [show (1 : Int32).toNatClampNeg = 1 from rfl]
    rw [show q_i (qS sw gc (q_u (q_u (q_u K 71 w ((K 71 w) + 1)) 79 k ((K 79 k) + 1)) 62 36 ((K 62 36) + 1)) J) 64 1 = K 64 1 from (show (q_u (q_u (q_u K 71 w ((K 71 w) + 1)) 79 k ((K 79 k) + 1)) 62 36 ((K 62 36) + 1)) 64 1 = K 64 1 from (q_un _ _ (by omega)).trans ((q_un _ _ (by omega)).trans (q_un _ _ (by omega))))]
    refine G_st (L := 89) (k := 1) (237, [some (.ref 62), some (.int (nI k)), none, none, none, some (.int (nI w)), none, some (.int a), some (.int o), none, none], [.int (-4), .int (K 64 1)], qS sw gc (q_u (q_u (q_u K 71 w ((K 71 w) + 1)) 79 k ((K 79 k) + 1)) 62 36 ((K 62 36) + 1)) J) (q_hn _ _ _ _) rfl ?_
    refine G_icmp_eq 278 rfl rfl (fun h1 => ?_) (fun h1 => ?_)
    · skip
      refine G_st (L := 89) (k := 3) (283, [some (.ref 62), some (.int (nI k)), none, none, none, some (.int (nI w)), none, some (.int a), some (.int o), none, none], [.int (a - o)], qS sw gc (q_u (q_u (q_u K 71 w ((K 71 w) + 1)) 79 k ((K 79 k) + 1)) 62 36 ((K 62 36) + 1)) J) (q_hn _ _ _ _) rfl ?_
      exact G_iret rfl rfl rfl (by unfold r_loA; rw [e64, if_pos h1])
    · skip
      refine G_st (L := 89) (k := 3) (246, [some (.ref 62), some (.int (nI k)), none, none, none, some (.int (nI w)), none, some (.int a), some (.int o), none, none], [.int (nI w), .ref 71], qS sw gc (q_u (q_u (q_u K 71 w ((K 71 w) + 1)) 79 k ((K 79 k) + 1)) 62 36 ((K 62 36) + 1)) J) (q_hn _ _ _ _) rfl ?_
      refine G_iald (i := 71) (n := 30) rfl rfl (q_lt (by decide)) (vp_in_nI (by omega) (by decide)) ?_
      rw [q_clamp (n := w) (by omega)]
      rw [show q_i (qS sw gc (q_u (q_u (q_u K 71 w ((K 71 w) + 1)) 79 k ((K 79 k) + 1)) 62 36 ((K 62 36) + 1)) J) 71 w = (K 71 w) + 1 from (show (q_u (q_u (q_u K 71 w ((K 71 w) + 1)) 79 k ((K 79 k) + 1)) 62 36 ((K 62 36) + 1)) 71 w = (K 71 w) + 1 from (q_un _ _ (by omega)).trans ((q_un _ _ (by omega)).trans (q_us _ _ _ _)))]
      refine G_st (L := 89) (k := 5) (256, [some (.ref 62), some (.int (nI k)), none, none, none, some (.int (nI w)), none, some (.int a), some (.int o), none, none], [.int ((nI w) + 6), .ref 71, .int ((K 71 w) + 1)], qS sw gc (q_u (q_u (q_u K 71 w ((K 71 w) + 1)) 79 k ((K 79 k) + 1)) 62 36 ((K 62 36) + 1)) J) (q_hn _ _ _ _) rfl ?_
      rw [show (nI w) + 6 = nI (w + 6) from (q_addP rfl rfl)]
      refine G_iald (i := 71) (n := 30) rfl rfl (q_lt (by decide)) (vp_in_nI (by omega) (by decide)) ?_
      rw [q_clamp (n := w + 6) (by omega)]
      rw [show q_i (qS sw gc (q_u (q_u (q_u K 71 w ((K 71 w) + 1)) 79 k ((K 79 k) + 1)) 62 36 ((K 62 36) + 1)) J) 71 (w + 6) = K 71 (w + 6) from (show (q_u (q_u (q_u K 71 w ((K 71 w) + 1)) 79 k ((K 79 k) + 1)) 62 36 ((K 62 36) + 1)) 71 (w + 6) = K 71 (w + 6) from (q_un _ _ (by omega)).trans ((q_un _ _ (by omega)).trans (q_un _ _ (by omega))))]
      refine G_st (L := 89) (k := 4) (263, [some (.ref 62), some (.int (nI k)), none, none, none, some (.int (nI w)), none, some (.int a), some (.int o), none, none], [.int 1, .ref 64, .int (((K 71 w) + 1) - (K 71 (w + 6)))], qS sw gc (q_u (q_u (q_u K 71 w ((K 71 w) + 1)) 79 k ((K 79 k) + 1)) 62 36 ((K 62 36) + 1)) J) (q_hn _ _ _ _) rfl ?_
      refine G_iald (i := 64) (n := 4) rfl rfl (q_lt (by decide)) (by unfold vp_in; decide) ?_
      rw [show (1 : Int32).toNatClampNeg = 1 from rfl]
      rw [show q_i (qS sw gc (q_u (q_u (q_u K 71 w ((K 71 w) + 1)) 79 k ((K 79 k) + 1)) 62 36 ((K 62 36) + 1)) J) 64 1 = K 64 1 from (show (q_u (q_u (q_u K 71 w ((K 71 w) + 1)) 79 k ((K 79 k) + 1)) 62 36 ((K 62 36) + 1)) 64 1 = K 64 1 from (q_un _ _ (by omega)).trans ((q_un _ _ (by omega)).trans (q_un _ _ (by omega))))]
      refine G_st (L := 89) (k := 0) (264, [some (.ref 62), some (.int (nI k)), none, none, none, some (.int (nI w)), none, some (.int a), some (.int o), none, none], [.int (K 64 1), .int (((K 71 w) + 1) - (K 71 (w + 6)))], qS sw gc (q_u (q_u (q_u K 71 w ((K 71 w) + 1)) 79 k ((K 79 k) + 1)) 62 36 ((K 62 36) + 1)) J) (q_hn _ _ _ _) rfl ?_
      refine G_icmp_lt 278 rfl rfl (fun h2 => ?_) (fun h2 => ?_)
      · skip
        refine G_st (L := 89) (k := 3) (283, [some (.ref 62), some (.int (nI k)), none, none, none, some (.int (nI w)), none, some (.int a), some (.int o), none, none], [.int (a - o)], qS sw gc (q_u (q_u (q_u K 71 w ((K 71 w) + 1)) 79 k ((K 79 k) + 1)) 62 36 ((K 62 36) + 1)) J) (q_hn _ _ _ _) rfl ?_
        exact G_iret rfl rfl rfl (by unfold r_loA; rw [e64, e71, e76, if_neg h1, if_pos h2])
      · skip
        refine G_st (L := 89) (k := 6) (277, [some (.ref 62), some (.int (nI k)), none, none, none, some (.int (nI w)), none, some (.int a), some (.int o), none, none], [.int 1, .int ((nI w) + 6), .ref 72], qS sw gc (q_u (q_u (q_u K 71 w ((K 71 w) + 1)) 79 k ((K 79 k) + 1)) 62 36 ((K 62 36) + 1)) J) (q_hn _ _ _ _) rfl ?_
        rw [show (nI w) + 6 = nI (w + 6) from (q_addP rfl rfl)]
        refine G_zast (i := 72) (n := 30) rfl rfl (q_lt (by decide)) (vp_in_nI (by omega) (by decide)) ?_
        rw [q_clamp (n := w + 6) (by omega)]
        refine G_st (L := 89) (k := 3) (283, [some (.ref 62), some (.int (nI k)), none, none, none, some (.int (nI w)), none, some (.int a), some (.int o), none, none], [.int (a - o)], qS sw gc (q_u (q_u (q_u (q_u K 71 w ((K 71 w) + 1)) 79 k ((K 79 k) + 1)) 62 36 ((K 62 36) + 1)) 72 (w + 6) 1) J) (q_hn _ _ _ _) rfl ?_
        exact G_iret rfl rfl rfl (by unfold r_loA; rw [e64, e71, e76, if_neg h1, if_neg h2])
  · unfold r_wk2 r_loB
    rw [if_neg h6]
    refine G_st (L := 89) (k := 4) (195, [some (.ref 62), some (.int (nI k)), none, none, none, some (.int (nI w)), none, some (.int a), some (.int o), none, none], [.int (nI w), .ref 71, .int (nI w), .ref 71], qS sw gc K J) (q_hn _ _ _ _) rfl ?_
    refine G_iald (i := 71) (n := 30) rfl rfl (q_lt (by decide)) (vp_in_nI (by omega) (by decide)) ?_
    rw [q_clamp (n := w) (by omega)]
    refine G_st (L := 89) (k := 2) (198, [some (.ref 62), some (.int (nI k)), none, none, none, some (.int (nI w)), none, some (.int a), some (.int o), none, none], [.int ((K 71 w) + 1), .int (nI w), .ref 71], qS sw gc K J) (q_hn _ _ _ _) rfl ?_
    refine G_iast (i := 71) (n := 30) rfl rfl (q_lt (by decide)) (vp_in_nI (by omega) (by decide)) ?_
    rw [q_clamp (n := w) (by omega)]
    refine G_st (L := 89) (k := 4) (205, [some (.ref 62), some (.int (nI k)), none, none, none, some (.int (nI w)), none, some (.int a), some (.int o), none, none], [.int (nI k), .ref 79, .int (nI k), .ref 79], qS sw gc (q_u K 71 w ((K 71 w) + 1)) J) (q_hn _ _ _ _) rfl ?_
    refine G_iald (i := 79) (n := 8) rfl rfl (q_lt (by decide)) (vp_in_nI (by omega) (by decide)) ?_
    rw [q_clamp (n := k) (by omega)]
    rw [show q_i (qS sw gc (q_u K 71 w ((K 71 w) + 1)) J) 79 k = K 79 k from (show (q_u K 71 w ((K 71 w) + 1)) 79 k = K 79 k from q_un _ _ (by omega))]
    refine G_st (L := 89) (k := 2) (208, [some (.ref 62), some (.int (nI k)), none, none, none, some (.int (nI w)), none, some (.int a), some (.int o), none, none], [.int ((K 79 k) + 1), .int (nI k), .ref 79], qS sw gc (q_u K 71 w ((K 71 w) + 1)) J) (q_hn _ _ _ _) rfl ?_
    refine G_iast (i := 79) (n := 8) rfl rfl (q_lt (by decide)) (vp_in_nI (by omega) (by decide)) ?_
    rw [q_clamp (n := k) (by omega)]
    refine G_st (L := 89) (k := 2) (211, [some (.ref 62), some (.int (nI k)), none, none, none, some (.int (nI w)), none, some (.int a), some (.int o), none, none], [.ref 62, .ref 62], qS sw gc (q_u (q_u K 71 w ((K 71 w) + 1)) 79 k ((K 79 k) + 1)) J) (q_hn _ _ _ _) rfl ?_
    refine G_get (ci := 9) (k := 36) (i := 62) rfl rfl rfl (q_lt (by decide)) ?_
    rw [show q_av (qS sw gc (q_u (q_u K 71 w ((K 71 w) + 1)) 79 k ((K 79 k) + 1)) J) 62 (q_fty 9 36) 36 = .int (K 62 36) from congrArg Value.int (show (q_u (q_u K 71 w ((K 71 w) + 1)) 79 k ((K 79 k) + 1)) 62 36 = K 62 36 from (q_un _ _ (by omega)).trans (q_un _ _ (by omega)))]
    refine G_st (L := 89) (k := 7) (226, [some (.ref 62), some (.int (nI k)), none, none, none, some (.int (nI w)), none, some (.int a), some (.int o), none, none], [.int 30, .int ((nI w) + 6)], qS sw gc (q_u (q_u (q_u K 71 w ((K 71 w) + 1)) 79 k ((K 79 k) + 1)) 62 36 ((K 62 36) + 1)) J) (q_hn _ _ _ _) rfl ?_
    rw [show (nI w) + 6 = nI (w + 6) from (q_addP rfl rfl)]
    refine G_icmp_ge 278 rfl rfl (fun _ => ?_) (fun h9 => absurd (nI_le (a := 30) (by omega) (by omega)) h9)
    refine G_st (L := 89) (k := 3) (283, [some (.ref 62), some (.int (nI k)), none, none, none, some (.int (nI w)), none, some (.int a), some (.int o), none, none], [.int (a - o)], qS sw gc (q_u (q_u (q_u K 71 w ((K 71 w) + 1)) 79 k ((K 79 k) + 1)) 62 36 ((K 62 36) + 1)) J) (q_hn _ _ _ _) rfl ?_
    exact G_iret rfl rfl rfl rfl
theorem r_wl_loop {d : Nat} {sw : Bool} {gc : Nat} {J : Nat → Nat → Int64} {n len k w : Nat} {L P : Nat → Nat} {F : Int64} (hlen : len ≤ 40) {a o : Int32} {r : Int32} {Iz : Nat → Nat → Int32} : ∀ (m p : Nat) (K : Nat → Nat → Int32), r_Sz K n L P → (∀ q, q ≤ len → K 85 q = nI (y_dp L P n F len q)) → len ≤ p + m → p ≤ 100 → G (d + 2) 137 (188, [some (.ref 62), some (.int (nI k)), none, none, none, some (.int (nI w)), none, some (.int a), some (.int o), none, none], [], qS sw gc (r_wl (q_psl (fun p => y_pk L P n F len p) L len m p) K) J) (some (.int r)) (qS sw gc Iz J) → G (d + 2) 137 (123, [some (.ref 62), some (.int (nI k)), some (.int (nI len)), some (.long F), none, some (.int (nI w)), none, some (.int a), some (.int o), some (.int (nI p)), none], [], qS sw gc K J) (some (.int r)) (qS sw gc Iz J) := by
  intro m
  induction m with
  | zero =>
    intro p K hz hr h h1 g
    refine G_st (L := 89) (k := 2) (126, [some (.ref 62), some (.int (nI k)), some (.int (nI len)), some (.long F), none, some (.int (nI w)), none, some (.int a), some (.int o), some (.int (nI p)), none], [.int (nI len), .int (nI p)], qS sw gc K J) (q_hn _ _ _ _) rfl ?_
    refine G_icmp_ge 188 rfl rfl (fun _ => ?_) (fun h9 => absurd (nI_le (by omega) (by omega)) h9)
    refine G_fg [some (.ref 62), some (.int (nI k)), none, none, none, some (.int (nI w)), none, some (.int a), some (.int o), none, none] (by repeat (first | exact trivial | refine ⟨rfl, ?_⟩)) ?_
    exact g
  | succ m ih =>
    intro p K hz hr h h1 g
    have hn8 := hz.2.1
    have hb := y_dp_ok (F := F) (len := len) hz.lp
    unfold q_psl at g
    by_cases hp : p < len
    · rw [if_pos hp] at g
      have hch := r_choice (d := d) (sw := sw) (gc := gc) (J := J) (F := F) hz hlen hp hr hb
      rw [show y_pkN L P (y_dp L P n F len) F len p n 0 = y_pk L P n F len p from rfl] at hch
      cases hf : y_pk L P n F len p with
      | none =>
        rw [hf] at hch g
        refine G_st (L := 89) (k := 2) (126, [some (.ref 62), some (.int (nI k)), some (.int (nI len)), some (.long F), none, some (.int (nI w)), none, some (.int a), some (.int o), some (.int (nI p)), none], [.int (nI len), .int (nI p)], qS sw gc K J) (q_hn _ _ _ _) rfl ?_
        refine G_icmp_ge 188 rfl rfl (fun h9 => absurd h9 (nI_ge (by omega) (by omega))) (fun _ => ?_)
        refine G_st (L := 89) (k := 4) (134, [some (.ref 62), some (.int (nI k)), some (.int (nI len)), some (.long F), none, some (.int (nI w)), none, some (.int a), some (.int o), some (.int (nI p)), none], [.long F, .int (nI len), .int (nI p), .ref 62], qS sw gc K J) (q_hn _ _ _ _) rfl ?_
        refine G_callV (b := 62) (ci := 9) (as := [.int (nI p), .int (nI len), .long F]) (rest := []) rfl rfl rfl (q_lt (by decide)) (by decide) rfl rfl (Nat.le_of_ble_eq_true rfl) hch (Nat.le_refl _) ?_
        refine G_st (L := 89) (k := 3) (143, [some (.ref 62), some (.int (nI k)), some (.int (nI len)), some (.long F), none, some (.int (nI w)), none, some (.int a), some (.int o), some (.int (nI p)), some (.int (-5))], [.int (-5), .int (-5)], qS sw gc K J) (q_hn _ _ _ _) rfl ?_
        refine G_icmp_ne 162 rfl rfl (fun h9 => absurd h9 (by decide)) (fun _ => ?_)
        refine G_st (L := 89) (k := 9) (123, [some (.ref 62), some (.int (nI k)), some (.int (nI len)), some (.long F), none, some (.int (nI w)), none, some (.int a), some (.int o), some (.int ((nI p) + 1)), some (.int (-5))], [], qS sw gc (q_u K 62 37 ((K 62 37) + 1)) J) (q_hn _ _ _ _) rfl ?_
        rw [show (nI p) + 1 = nI (p + 1) from (q_addP rfl rfl)]
        refine G_fg [some (.ref 62), some (.int (nI k)), some (.int (nI len)), some (.long F), none, some (.int (nI w)), none, some (.int a), some (.int o), some (.int (nI (p + 1))), none] (by repeat (first | exact trivial | refine ⟨rfl, ?_⟩)) ?_
        exact ih (p + 1) _ (hz.upd (by omega) (by omega)) (fun q hq => by rw [q_un _ _ (by omega)]; exact hr q hq) (by omega) (by omega) g
      | some j =>
        rw [hf] at hch g
        obtain ⟨hkn, hfk⟩ := y_pkN_lt n 0 j hf
        obtain ⟨z1, z2, z3, z4, z5⟩ := hz.2.2 j (by omega)
        have hfl := y_fit_le hfk
        have z6 : (q_u K 84 j (K 84 j + 1)) 82 j = nI (L j) := (q_un _ _ (by omega)).trans z1
        refine G_st (L := 89) (k := 2) (126, [some (.ref 62), some (.int (nI k)), some (.int (nI len)), some (.long F), none, some (.int (nI w)), none, some (.int a), some (.int o), some (.int (nI p)), none], [.int (nI len), .int (nI p)], qS sw gc K J) (q_hn _ _ _ _) rfl ?_
        refine G_icmp_ge 188 rfl rfl (fun h9 => absurd h9 (nI_ge (by omega) (by omega))) (fun _ => ?_)
        refine G_st (L := 89) (k := 4) (134, [some (.ref 62), some (.int (nI k)), some (.int (nI len)), some (.long F), none, some (.int (nI w)), none, some (.int a), some (.int o), some (.int (nI p)), none], [.long F, .int (nI len), .int (nI p), .ref 62], qS sw gc K J) (q_hn _ _ _ _) rfl ?_
        refine G_callV (b := 62) (ci := 9) (as := [.int (nI p), .int (nI len), .long F]) (rest := []) rfl rfl rfl (q_lt (by decide)) (by decide) rfl rfl (Nat.le_of_ble_eq_true rfl) hch (Nat.le_refl _) ?_
        refine G_st (L := 89) (k := 3) (143, [some (.ref 62), some (.int (nI k)), some (.int (nI len)), some (.long F), none, some (.int (nI w)), none, some (.int a), some (.int o), some (.int (nI p)), some (.int (nI j))], [.int (-5), .int (nI j)], qS sw gc K J) (q_hn _ _ _ _) rfl ?_
        refine G_icmp_ne 162 rfl rfl (fun _ => ?_) (fun h9 => absurd h9 (q_neN (by decide) (by omega)))
        refine G_st (L := 89) (k := 4) (169, [some (.ref 62), some (.int (nI k)), some (.int (nI len)), some (.long F), none, some (.int (nI w)), none, some (.int a), some (.int o), some (.int (nI p)), some (.int (nI j))], [.int (nI j), .ref 84, .int (nI j), .ref 84], qS sw gc K J) (q_hn _ _ _ _) rfl ?_
        refine G_iald (i := 84) (n := 8) rfl rfl (q_lt (by decide)) (vp_in_nI (by omega) (by decide)) ?_
        rw [q_clamp (n := j) (by omega)]
        refine G_st (L := 89) (k := 2) (172, [some (.ref 62), some (.int (nI k)), some (.int (nI len)), some (.long F), none, some (.int (nI w)), none, some (.int a), some (.int o), some (.int (nI p)), some (.int (nI j))], [.int ((K 84 j) + 1), .int (nI j), .ref 84], qS sw gc K J) (q_hn _ _ _ _) rfl ?_
        refine G_iast (i := 84) (n := 8) rfl rfl (q_lt (by decide)) (vp_in_nI (by omega) (by decide)) ?_
        rw [q_clamp (n := j) (by omega)]
        refine G_st (L := 89) (k := 4) (181, [some (.ref 62), some (.int (nI k)), some (.int (nI len)), some (.long F), none, some (.int (nI w)), none, some (.int a), some (.int o), some (.int (nI p)), some (.int (nI j))], [.int (nI j), .ref 82, .int (nI p)], qS sw gc (q_u K 84 j ((K 84 j) + 1)) J) (q_hn _ _ _ _) rfl ?_
        refine G_iald (i := 82) (n := 8) rfl rfl (q_lt (by decide)) (vp_in_nI (by omega) (by decide)) ?_
        rw [q_clamp (n := j) (by omega)]
        rw [show q_i (qS sw gc (q_u K 84 j ((K 84 j) + 1)) J) 82 j = K 82 j from (show (q_u K 84 j ((K 84 j) + 1)) 82 j = K 82 j from q_un _ _ (by omega))]
        refine G_st (L := 89) (k := 3) (123, [some (.ref 62), some (.int (nI k)), some (.int (nI len)), some (.long F), none, some (.int (nI w)), none, some (.int a), some (.int o), some (.int ((nI p) + (K 82 j))), some (.int (nI j))], [], qS sw gc (q_u K 84 j ((K 84 j) + 1)) J) (q_hn _ _ _ _) rfl ?_
        rw [show (nI p) + (K 82 j) = nI (p + L j) from (q_addP rfl z1)]
        refine G_fg [some (.ref 62), some (.int (nI k)), some (.int (nI len)), some (.long F), none, some (.int (nI w)), none, some (.int a), some (.int o), some (.int (nI (p + L j))), none] (by repeat (first | exact trivial | refine ⟨rfl, ?_⟩)) ?_
        exact ih (p + L j) _ (hz.upd (by omega) (by omega)) (fun q hq => by rw [q_un _ _ (by omega)]; exact hr q hq) (by omega) (by omega) g
    · rw [if_neg hp] at g
      refine G_st (L := 89) (k := 2) (126, [some (.ref 62), some (.int (nI k)), some (.int (nI len)), some (.long F), none, some (.int (nI w)), none, some (.int a), some (.int o), some (.int (nI p)), none], [.int (nI len), .int (nI p)], qS sw gc K J) (q_hn _ _ _ _) rfl ?_
      refine G_icmp_ge 188 rfl rfl (fun _ => ?_) (fun h9 => absurd (nI_le (by omega) (by omega)) h9)
      refine G_fg [some (.ref 62), some (.int (nI k)), none, none, none, some (.int (nI w)), none, some (.int a), some (.int o), none, none] (by repeat (first | exact trivial | refine ⟨rfl, ?_⟩)) ?_
      exact g
theorem r_wk_mid {d : Nat} {sw : Bool} {gc : Nat} {J : Nat → Nat → Int64} {K : Nat → Nat → Int32} {n len k w c : Nat} {L P : Nat → Nat} {F : Int64} {e : Int32} (hk : k < 8) (hw : w < 30) (hc : K 62 9 = nI c) (hc4 : c ≤ 4) {r : Int32} {Iz : Nat → Nat → Int32} (g : G (d + 2) 137 (123, [some (.ref 62), some (.int (nI k)), some (.int (nI len)), some (.long F), none, some (.int (nI w)), none, some (.int (r_ear K w k c e)), some (.int (r_off K w k c e)), some (.int 0), none], [], qS sw gc (r_wk1 K k (r_ear K w k c e) (r_off K w k c e)) J) (some (.int r)) (qS sw gc Iz J)) : G (d + 2) 137 (14, [some (.ref 62), some (.int (nI k)), some (.int (nI len)), some (.long F), none, some (.int (nI w)), none, none, none, none, none], [.int e], qS sw gc K J) (some (.int r)) (qS sw gc Iz J) := by
  refine G_st (L := 89) (k := 7) (27, [some (.ref 62), some (.int (nI k)), some (.int (nI len)), some (.long F), none, some (.int (nI w)), some (.int e), none, none, none, none], [.int (nI w), .ref 70, .ref 62, .int e, .int e], qS sw gc K J) (q_hn _ _ _ _) rfl ?_
  refine G_iald (i := 70) (n := 30) rfl rfl (q_lt (by decide)) (vp_in_nI (by omega) (by decide)) ?_
  rw [q_clamp (n := w) (by omega)]
  refine G_st (L := 89) (k := 0) (28, [some (.ref 62), some (.int (nI k)), some (.int (nI len)), some (.long F), none, some (.int (nI w)), some (.int e), none, none, none, none], [.int (K 70 w), .ref 62, .int e, .int e], qS sw gc K J) (q_hn _ _ _ _) rfl ?_
  refine G_callV (b := 62) (ci := 9) (as := [.int (K 70 w)]) (rest := [.int e, .int e]) rfl rfl rfl (q_lt (by decide)) (by decide) rfl rfl (Nat.le_of_ble_eq_true rfl) (r_poundage hc hc4) (Nat.le_refl _) ?_
  refine G_st (L := 89) (k := 2) (34, [some (.ref 62), some (.int (nI k)), some (.int (nI len)), some (.long F), none, some (.int (nI w)), some (.int e), none, none, none, none], [.int 100, .int (e * (r_pd K (K 70 w) c 0)), .int e], qS sw gc K J) (q_hn _ _ _ _) rfl ?_
  refine G_idiv rfl (by decide) ?_
  refine G_st (L := 89) (k := 4) (41, [some (.ref 62), some (.int (nI k)), some (.int (nI len)), some (.long F), none, some (.int (nI w)), some (.int e), none, none, none, none], [.int (nI k), .ref 78, .int (e + ((e * (r_pd K (K 70 w) c 0)) / 100))], qS sw gc K J) (q_hn _ _ _ _) rfl ?_
  refine G_iald (i := 78) (n := 8) rfl rfl (q_lt (by decide)) (vp_in_nI (by omega) (by decide)) ?_
  rw [q_clamp (n := k) (by omega)]
  refine G_st (L := 89) (k := 5) (49, [some (.ref 62), some (.int (nI k)), some (.int (nI len)), some (.long F), none, some (.int (nI w)), some (.int e), some (.int ((e + ((e * (r_pd K (K 70 w) c 0)) / 100)) + (K 78 k))), none, none, none], [.int 3, .ref 62, .int ((e + ((e * (r_pd K (K 70 w) c 0)) / 100)) + (K 78 k))], qS sw gc K J) (q_hn _ _ _ _) rfl ?_
  refine G_callV (b := 62) (ci := 9) (as := [.int 3]) (rest := [.int ((e + ((e * (r_pd K (K 70 w) c 0)) / 100)) + (K 78 k))]) rfl rfl rfl (q_lt (by decide)) (by decide) rfl rfl (Nat.le_of_ble_eq_true rfl) (GM_r (r2 := r_lo K 3) r_lawOf_3 rfl) (Nat.le_refl _) ?_
  refine G_st (L := 89) (k := 2) (55, [some (.ref 62), some (.int (nI k)), some (.int (nI len)), some (.long F), none, some (.int (nI w)), some (.int e), some (.int ((e + ((e * (r_pd K (K 70 w) c 0)) / 100)) + (K 78 k))), none, none, none], [.int 100, .int (((e + ((e * (r_pd K (K 70 w) c 0)) / 100)) + (K 78 k)) * (r_lo K 3))], qS sw gc K J) (q_hn _ _ _ _) rfl ?_
  refine G_idiv rfl (by decide) ?_
  refine G_st (L := 89) (k := 11) (75, [some (.ref 62), some (.int (nI k)), some (.int (nI len)), some (.long F), none, some (.int (nI w)), some (.int e), some (.int ((e + ((e * (r_pd K (K 70 w) c 0)) / 100)) + (K 78 k))), some (.int ((((e + ((e * (r_pd K (K 70 w) c 0)) / 100)) + (K 78 k)) * (r_lo K 3)) / 100)), none, none], [.int (nI k), .ref 75, .int (nI k), .ref 75], qS sw gc (q_u K 62 31 ((K 62 31) + ((((e + ((e * (r_pd K (K 70 w) c 0)) / 100)) + (K 78 k)) * (r_lo K 3)) / 100))) J) (q_hn _ _ _ _) rfl ?_
  refine G_iald (i := 75) (n := 8) rfl rfl (q_lt (by decide)) (vp_in_nI (by omega) (by decide)) ?_
  rw [q_clamp (n := k) (by omega)]
  rw [show q_i (qS sw gc (q_u K 62 31 ((K 62 31) + ((((e + ((e * (r_pd K (K 70 w) c 0)) / 100)) + (K 78 k)) * (r_lo K 3)) / 100))) J) 75 k = K 75 k from (show (q_u K 62 31 ((K 62 31) + ((((e + ((e * (r_pd K (K 70 w) c 0)) / 100)) + (K 78 k)) * (r_lo K 3)) / 100))) 75 k = K 75 k from q_un _ _ (by omega))]
  refine G_st (L := 89) (k := 4) (82, [some (.ref 62), some (.int (nI k)), some (.int (nI len)), some (.long F), none, some (.int (nI w)), some (.int e), some (.int ((e + ((e * (r_pd K (K 70 w) c 0)) / 100)) + (K 78 k))), some (.int ((((e + ((e * (r_pd K (K 70 w) c 0)) / 100)) + (K 78 k)) * (r_lo K 3)) / 100)), none, none], [.int ((K 75 k) + (((e + ((e * (r_pd K (K 70 w) c 0)) / 100)) + (K 78 k)) - ((((e + ((e * (r_pd K (K 70 w) c 0)) / 100)) + (K 78 k)) * (r_lo K 3)) / 100))), .int (nI k), .ref 75], qS sw gc (q_u K 62 31 ((K 62 31) + ((((e + ((e * (r_pd K (K 70 w) c 0)) / 100)) + (K 78 k)) * (r_lo K 3)) / 100))) J) (q_hn _ _ _ _) rfl ?_
  refine G_iast (i := 75) (n := 8) rfl rfl (q_lt (by decide)) (vp_in_nI (by omega) (by decide)) ?_
  rw [q_clamp (n := k) (by omega)]
  refine G_st (L := 89) (k := 3) (88, [some (.ref 62), some (.int (nI k)), some (.int (nI len)), some (.long F), none, some (.int (nI w)), some (.int e), some (.int ((e + ((e * (r_pd K (K 70 w) c 0)) / 100)) + (K 78 k))), some (.int ((((e + ((e * (r_pd K (K 70 w) c 0)) / 100)) + (K 78 k)) * (r_lo K 3)) / 100)), none, none], [.int (nI k), .ref 80], qS sw gc (q_u (q_u K 62 31 ((K 62 31) + ((((e + ((e * (r_pd K (K 70 w) c 0)) / 100)) + (K 78 k)) * (r_lo K 3)) / 100))) 75 k ((K 75 k) + (((e + ((e * (r_pd K (K 70 w) c 0)) / 100)) + (K 78 k)) - ((((e + ((e * (r_pd K (K 70 w) c 0)) / 100)) + (K 78 k)) * (r_lo K 3)) / 100)))) J) (q_hn _ _ _ _) rfl ?_
  refine G_zald (i := 80) (n := 8) rfl rfl (q_lt (by decide)) (vp_in_nI (by omega) (by decide)) ?_
  rw [q_clamp (n := k) (by omega)]
  rw [show q_i (qS sw gc (q_u (q_u K 62 31 ((K 62 31) + ((((e + ((e * (r_pd K (K 70 w) c 0)) / 100)) + (K 78 k)) * (r_lo K 3)) / 100))) 75 k ((K 75 k) + (((e + ((e * (r_pd K (K 70 w) c 0)) / 100)) + (K 78 k)) - ((((e + ((e * (r_pd K (K 70 w) c 0)) / 100)) + (K 78 k)) * (r_lo K 3)) / 100)))) J) 80 k = K 80 k from (show (q_u (q_u K 62 31 ((K 62 31) + ((((e + ((e * (r_pd K (K 70 w) c 0)) / 100)) + (K 78 k)) * (r_lo K 3)) / 100))) 75 k ((K 75 k) + (((e + ((e * (r_pd K (K 70 w) c 0)) / 100)) + (K 78 k)) - ((((e + ((e * (r_pd K (K 70 w) c 0)) / 100)) + (K 78 k)) * (r_lo K 3)) / 100)))) 80 k = K 80 k from (q_un _ _ (by omega)).trans (q_un _ _ (by omega)))]
  refine G_st (L := 89) (k := 0) (89, [some (.ref 62), some (.int (nI k)), some (.int (nI len)), some (.long F), none, some (.int (nI w)), some (.int e), some (.int ((e + ((e * (r_pd K (K 70 w) c 0)) / 100)) + (K 78 k))), some (.int ((((e + ((e * (r_pd K (K 70 w) c 0)) / 100)) + (K 78 k)) * (r_lo K 3)) / 100)), none, none], [.int (K 80 k)], qS sw gc (q_u (q_u K 62 31 ((K 62 31) + ((((e + ((e * (r_pd K (K 70 w) c 0)) / 100)) + (K 78 k)) * (r_lo K 3)) / 100))) 75 k ((K 75 k) + (((e + ((e * (r_pd K (K 70 w) c 0)) / 100)) + (K 78 k)) - ((((e + ((e * (r_pd K (K 70 w) c 0)) / 100)) + (K 78 k)) * (r_lo K 3)) / 100)))) J) (q_hn _ _ _ _) rfl ?_
  refine G_if_ne 120 rfl rfl (fun h1 => ?_) (fun h1 => ?_)
  · skip
    refine G_st (L := 89) (k := 2) (123, [some (.ref 62), some (.int (nI k)), some (.int (nI len)), some (.long F), none, some (.int (nI w)), some (.int e), some (.int ((e + ((e * (r_pd K (K 70 w) c 0)) / 100)) + (K 78 k))), some (.int ((((e + ((e * (r_pd K (K 70 w) c 0)) / 100)) + (K 78 k)) * (r_lo K 3)) / 100)), some (.int 0), none], [], qS sw gc (q_u (q_u K 62 31 ((K 62 31) + ((((e + ((e * (r_pd K (K 70 w) c 0)) / 100)) + (K 78 k)) * (r_lo K 3)) / 100))) 75 k ((K 75 k) + (((e + ((e * (r_pd K (K 70 w) c 0)) / 100)) + (K 78 k)) - ((((e + ((e * (r_pd K (K 70 w) c 0)) / 100)) + (K 78 k)) * (r_lo K 3)) / 100)))) J) (q_hn _ _ _ _) rfl ?_
    refine G_fg [some (.ref 62), some (.int (nI k)), some (.int (nI len)), some (.long F), none, some (.int (nI w)), none, some (.int ((e + ((e * (r_pd K (K 70 w) c 0)) / 100)) + (K 78 k))), some (.int ((((e + ((e * (r_pd K (K 70 w) c 0)) / 100)) + (K 78 k)) * (r_lo K 3)) / 100)), some (.int 0), none] (by repeat (first | exact trivial | refine ⟨rfl, ?_⟩)) ?_
    unfold r_wk1 at g
    rw [if_neg h1] at g
    exact g
  · skip
    refine G_st (L := 89) (k := 4) (98, [some (.ref 62), some (.int (nI k)), some (.int (nI len)), some (.long F), none, some (.int (nI w)), some (.int e), some (.int ((e + ((e * (r_pd K (K 70 w) c 0)) / 100)) + (K 78 k))), some (.int ((((e + ((e * (r_pd K (K 70 w) c 0)) / 100)) + (K 78 k)) * (r_lo K 3)) / 100)), none, none], [.int 1, .int (nI k), .ref 80], qS sw gc (q_u (q_u K 62 31 ((K 62 31) + ((((e + ((e * (r_pd K (K 70 w) c 0)) / 100)) + (K 78 k)) * (r_lo K 3)) / 100))) 75 k ((K 75 k) + (((e + ((e * (r_pd K (K 70 w) c 0)) / 100)) + (K 78 k)) - ((((e + ((e * (r_pd K (K 70 w) c 0)) / 100)) + (K 78 k)) * (r_lo K 3)) / 100)))) J) (q_hn _ _ _ _) rfl ?_
    refine G_zast (i := 80) (n := 8) rfl rfl (q_lt (by decide)) (vp_in_nI (by omega) (by decide)) ?_
    rw [q_clamp (n := k) (by omega)]
    refine G_st (L := 89) (k := 4) (105, [some (.ref 62), some (.int (nI k)), some (.int (nI len)), some (.long F), none, some (.int (nI w)), some (.int e), some (.int ((e + ((e * (r_pd K (K 70 w) c 0)) / 100)) + (K 78 k))), some (.int ((((e + ((e * (r_pd K (K 70 w) c 0)) / 100)) + (K 78 k)) * (r_lo K 3)) / 100)), none, none], [.int (nI k), .ref 75, .int (nI k), .ref 75], qS sw gc (q_u (q_u (q_u K 62 31 ((K 62 31) + ((((e + ((e * (r_pd K (K 70 w) c 0)) / 100)) + (K 78 k)) * (r_lo K 3)) / 100))) 75 k ((K 75 k) + (((e + ((e * (r_pd K (K 70 w) c 0)) / 100)) + (K 78 k)) - ((((e + ((e * (r_pd K (K 70 w) c 0)) / 100)) + (K 78 k)) * (r_lo K 3)) / 100)))) 80 k 1) J) (q_hn _ _ _ _) rfl ?_
    refine G_iald (i := 75) (n := 8) rfl rfl (q_lt (by decide)) (vp_in_nI (by omega) (by decide)) ?_
    rw [q_clamp (n := k) (by omega)]
    rw [show q_i (qS sw gc (q_u (q_u (q_u K 62 31 ((K 62 31) + ((((e + ((e * (r_pd K (K 70 w) c 0)) / 100)) + (K 78 k)) * (r_lo K 3)) / 100))) 75 k ((K 75 k) + (((e + ((e * (r_pd K (K 70 w) c 0)) / 100)) + (K 78 k)) - ((((e + ((e * (r_pd K (K 70 w) c 0)) / 100)) + (K 78 k)) * (r_lo K 3)) / 100)))) 80 k 1) J) 75 k = (K 75 k) + (((e + ((e * (r_pd K (K 70 w) c 0)) / 100)) + (K 78 k)) - ((((e + ((e * (r_pd K (K 70 w) c 0)) / 100)) + (K 78 k)) * (r_lo K 3)) / 100)) from (show (q_u (q_u (q_u K 62 31 ((K 62 31) + ((((e + ((e * (r_pd K (K 70 w) c 0)) / 100)) + (K 78 k)) * (r_lo K 3)) / 100))) 75 k ((K 75 k) + (((e + ((e * (r_pd K (K 70 w) c 0)) / 100)) + (K 78 k)) - ((((e + ((e * (r_pd K (K 70 w) c 0)) / 100)) + (K 78 k)) * (r_lo K 3)) / 100)))) 80 k 1) 75 k = (K 75 k) + (((e + ((e * (r_pd K (K 70 w) c 0)) / 100)) + (K 78 k)) - ((((e + ((e * (r_pd K (K 70 w) c 0)) / 100)) + (K 78 k)) * (r_lo K 3)) / 100)) from (q_un _ _ (by omega)).trans (q_us _ _ _ _))]
    refine G_st (L := 89) (k := 2) (108, [some (.ref 62), some (.int (nI k)), some (.int (nI len)), some (.long F), none, some (.int (nI w)), some (.int e), some (.int ((e + ((e * (r_pd K (K 70 w) c 0)) / 100)) + (K 78 k))), some (.int ((((e + ((e * (r_pd K (K 70 w) c 0)) / 100)) + (K 78 k)) * (r_lo K 3)) / 100)), none, none], [.int 2, .ref 62, .int ((K 75 k) + (((e + ((e * (r_pd K (K 70 w) c 0)) / 100)) + (K 78 k)) - ((((e + ((e * (r_pd K (K 70 w) c 0)) / 100)) + (K 78 k)) * (r_lo K 3)) / 100))), .int (nI k), .ref 75], qS sw gc (q_u (q_u (q_u K 62 31 ((K 62 31) + ((((e + ((e * (r_pd K (K 70 w) c 0)) / 100)) + (K 78 k)) * (r_lo K 3)) / 100))) 75 k ((K 75 k) + (((e + ((e * (r_pd K (K 70 w) c 0)) / 100)) + (K 78 k)) - ((((e + ((e * (r_pd K (K 70 w) c 0)) / 100)) + (K 78 k)) * (r_lo K 3)) / 100)))) 80 k 1) J) (q_hn _ _ _ _) rfl ?_
    refine G_callV (b := 62) (ci := 9) (as := [.int 2]) (rest := [.int ((K 75 k) + (((e + ((e * (r_pd K (K 70 w) c 0)) / 100)) + (K 78 k)) - ((((e + ((e * (r_pd K (K 70 w) c 0)) / 100)) + (K 78 k)) * (r_lo K 3)) / 100))), .int (nI k), .ref 75]) rfl rfl rfl (q_lt (by decide)) (by decide) rfl rfl (Nat.le_of_ble_eq_true rfl) (GM_r (r2 := r_lo K 2) r_lawOf_2 rfl) (Nat.le_refl _) ?_
    refine G_st (L := 89) (k := 3) (116, [some (.ref 62), some (.int (nI k)), some (.int (nI len)), some (.long F), none, some (.int (nI w)), some (.int e), some (.int ((e + ((e * (r_pd K (K 70 w) c 0)) / 100)) + (K 78 k))), some (.int ((((e + ((e * (r_pd K (K 70 w) c 0)) / 100)) + (K 78 k)) * (r_lo K 3)) / 100)), none, none], [.int (nI k), .ref 74, .int (r_lo K 2), .int ((K 75 k) + (((e + ((e * (r_pd K (K 70 w) c 0)) / 100)) + (K 78 k)) - ((((e + ((e * (r_pd K (K 70 w) c 0)) / 100)) + (K 78 k)) * (r_lo K 3)) / 100))), .int (nI k), .ref 75], qS sw gc (q_u (q_u (q_u K 62 31 ((K 62 31) + ((((e + ((e * (r_pd K (K 70 w) c 0)) / 100)) + (K 78 k)) * (r_lo K 3)) / 100))) 75 k ((K 75 k) + (((e + ((e * (r_pd K (K 70 w) c 0)) / 100)) + (K 78 k)) - ((((e + ((e * (r_pd K (K 70 w) c 0)) / 100)) + (K 78 k)) * (r_lo K 3)) / 100)))) 80 k 1) J) (q_hn _ _ _ _) rfl ?_
    refine G_iald (i := 74) (n := 8) rfl rfl (q_lt (by decide)) (vp_in_nI (by omega) (by decide)) ?_
    rw [q_clamp (n := k) (by omega)]
    rw [show q_i (qS sw gc (q_u (q_u (q_u K 62 31 ((K 62 31) + ((((e + ((e * (r_pd K (K 70 w) c 0)) / 100)) + (K 78 k)) * (r_lo K 3)) / 100))) 75 k ((K 75 k) + (((e + ((e * (r_pd K (K 70 w) c 0)) / 100)) + (K 78 k)) - ((((e + ((e * (r_pd K (K 70 w) c 0)) / 100)) + (K 78 k)) * (r_lo K 3)) / 100)))) 80 k 1) J) 74 k = K 74 k from (show (q_u (q_u (q_u K 62 31 ((K 62 31) + ((((e + ((e * (r_pd K (K 70 w) c 0)) / 100)) + (K 78 k)) * (r_lo K 3)) / 100))) 75 k ((K 75 k) + (((e + ((e * (r_pd K (K 70 w) c 0)) / 100)) + (K 78 k)) - ((((e + ((e * (r_pd K (K 70 w) c 0)) / 100)) + (K 78 k)) * (r_lo K 3)) / 100)))) 80 k 1) 74 k = K 74 k from (q_un _ _ (by omega)).trans ((q_un _ _ (by omega)).trans (q_un _ _ (by omega))))]
    refine G_st (L := 89) (k := 2) (119, [some (.ref 62), some (.int (nI k)), some (.int (nI len)), some (.long F), none, some (.int (nI w)), some (.int e), some (.int ((e + ((e * (r_pd K (K 70 w) c 0)) / 100)) + (K 78 k))), some (.int ((((e + ((e * (r_pd K (K 70 w) c 0)) / 100)) + (K 78 k)) * (r_lo K 3)) / 100)), none, none], [.int (((K 75 k) + (((e + ((e * (r_pd K (K 70 w) c 0)) / 100)) + (K 78 k)) - ((((e + ((e * (r_pd K (K 70 w) c 0)) / 100)) + (K 78 k)) * (r_lo K 3)) / 100))) - ((r_lo K 2) * (K 74 k))), .int (nI k), .ref 75], qS sw gc (q_u (q_u (q_u K 62 31 ((K 62 31) + ((((e + ((e * (r_pd K (K 70 w) c 0)) / 100)) + (K 78 k)) * (r_lo K 3)) / 100))) 75 k ((K 75 k) + (((e + ((e * (r_pd K (K 70 w) c 0)) / 100)) + (K 78 k)) - ((((e + ((e * (r_pd K (K 70 w) c 0)) / 100)) + (K 78 k)) * (r_lo K 3)) / 100)))) 80 k 1) J) (q_hn _ _ _ _) rfl ?_
    refine G_iast (i := 75) (n := 8) rfl rfl (q_lt (by decide)) (vp_in_nI (by omega) (by decide)) ?_
    rw [q_clamp (n := k) (by omega)]
    refine G_st (L := 89) (k := 2) (123, [some (.ref 62), some (.int (nI k)), some (.int (nI len)), some (.long F), none, some (.int (nI w)), some (.int e), some (.int ((e + ((e * (r_pd K (K 70 w) c 0)) / 100)) + (K 78 k))), some (.int ((((e + ((e * (r_pd K (K 70 w) c 0)) / 100)) + (K 78 k)) * (r_lo K 3)) / 100)), some (.int 0), none], [], qS sw gc (q_u (q_u (q_u (q_u K 62 31 ((K 62 31) + ((((e + ((e * (r_pd K (K 70 w) c 0)) / 100)) + (K 78 k)) * (r_lo K 3)) / 100))) 75 k ((K 75 k) + (((e + ((e * (r_pd K (K 70 w) c 0)) / 100)) + (K 78 k)) - ((((e + ((e * (r_pd K (K 70 w) c 0)) / 100)) + (K 78 k)) * (r_lo K 3)) / 100)))) 80 k 1) 75 k (((K 75 k) + (((e + ((e * (r_pd K (K 70 w) c 0)) / 100)) + (K 78 k)) - ((((e + ((e * (r_pd K (K 70 w) c 0)) / 100)) + (K 78 k)) * (r_lo K 3)) / 100))) - ((r_lo K 2) * (K 74 k)))) J) (q_hn _ _ _ _) rfl ?_
    refine G_fg [some (.ref 62), some (.int (nI k)), some (.int (nI len)), some (.long F), none, some (.int (nI w)), none, some (.int ((e + ((e * (r_pd K (K 70 w) c 0)) / 100)) + (K 78 k))), some (.int ((((e + ((e * (r_pd K (K 70 w) c 0)) / 100)) + (K 78 k)) * (r_lo K 3)) / 100)), some (.int 0), none] (by repeat (first | exact trivial | refine ⟨rfl, ?_⟩)) ?_
    unfold r_wk1 at g
    rw [if_pos h1] at g
    exact g
theorem r_wk1_un {K : Nat → Nat → Int32} {k : Nat} {a o : Int32} {i j : Nat} (h : ¬ (i = 62 ∧ j = 31) ∧ ¬ (i = 75 ∧ j = k) ∧ ¬ (i = 80 ∧ j = k)) : r_wk1 K k a o i j = K i j := by
  unfold r_wk1
  split
  · rw [q_un _ _ h.2.1, q_un _ _ h.2.2, q_un _ _ h.2.1, q_un _ _ h.1]
  · rw [q_un _ _ h.2.1, q_un _ _ h.1]
theorem r_wk1_Sz {K : Nat → Nat → Int32} {n k : Nat} {L P : Nat → Nat} {a o : Int32} (h : r_Sz K n L P) : r_Sz (r_wk1 K k a o) n L P := by
  refine ⟨by rw [r_wk1_un (by omega)]; exact h.1, h.2.1, fun j hj => ?_⟩
  rw [r_wk1_un (by omega), r_wk1_un (by omega)]
  exact h.2.2 j hj
def r_wks (I : Nat → Nat → Int32) (L P : Nat → Nat) (n len : Nat) (F : Int64) (w k c : Nat) : Nat → Nat → Int32 := r_wk2 (r_wl (y_ps L P n F len) (r_wk1 (r_mo I L P n len F) k (r_ear (r_mo I L P n len F) w k c (nI (y_dp L P n F len 0))) (r_off (r_mo I L P n len F) w k c (nI (y_dp L P n F len 0))))) w k
def r_wkr (I : Nat → Nat → Int32) (L P : Nat → Nat) (n len : Nat) (F : Int64) (w k c : Nat) : Int32 := r_ear (r_mo I L P n len F) w k c (nI (y_dp L P n F len 0)) - r_off (r_mo I L P n len F) w k c (nI (y_dp L P n F len 0))
theorem r_works {d : Nat} {sw : Bool} {gc : Nat} {I : Nat → Nat → Int32} {J : Nat → Nat → Int64} {n len k w c : Nat} {L P : Nat → Nat} {F : Int64} (hz : r_Sz I n L P) (hlen : len ≤ 40) (hl1 : 1 ≤ len) (hk : k < 8) (hw : w < 30) (hwk : I 77 k = nI w) (hc : I 62 9 = nI c) (hc4 : c ≤ 4) : GM (d + 2) 137 [.ref 62, .int (nI k), .int (nI len), .long F] (qS sw gc I J) (some (.int (r_wkr I L P n len F w k c))) (qS sw gc (r_wks I L P n len F w k c) J) := by
  refine GM_of (by decide) (Nat.le_refl _) (Nat.le_of_ble_eq_true rfl) trivial ?_
  refine G_st (L := 89) (k := 0) (0, [some (.ref 62), some (.int (nI k)), some (.int (nI len)), some (.long F), none, none, none, none, none, none, none], [], qS sw gc I J) (q_hn _ _ _ _) rfl ?_
  refine G_st (L := 89) (k := 3) (5, [some (.ref 62), some (.int (nI k)), some (.int (nI len)), some (.long F), none, none, none, none, none, none, none], [.int (nI k), .ref 77], qS sw gc I J) (q_hn _ _ _ _) rfl ?_
  refine G_iald (i := 77) (n := 8) rfl rfl (q_lt (by decide)) (vp_in_nI (by omega) (by decide)) ?_
  rw [q_clamp (n := k) (by omega)]
  refine G_st (L := 89) (k := 4) (11, [some (.ref 62), some (.int (nI k)), some (.int (nI len)), some (.long F), none, some (.int (I 77 k)), none, none, none, none, none], [.long F, .int (nI len), .ref 62], qS sw gc I J) (q_hn _ _ _ _) rfl ?_
  rw [show I 77 k = nI w from hwk]
  refine G_callV (b := 62) (ci := 9) (as := [.int (nI len), .long F]) (rest := []) rfl rfl rfl (q_lt (by decide)) (by decide) rfl rfl (Nat.le_of_ble_eq_true rfl) (r_mostOf hz hlen hl1) (Nat.le_refl _) ?_
  refine G_st (L := 89) (k := 0) (14, [some (.ref 62), some (.int (nI k)), some (.int (nI len)), some (.long F), none, some (.int (nI w)), none, none, none, none, none], [.int (nI (y_dp L P n F len 0))], qS sw gc (r_mo I L P n len F) J) (q_hn _ _ _ _) rfl ?_
  refine r_wk_mid (n := n) (L := L) (P := P) (c := c) hk hw ((r_mo_un (by decide)).trans hc) hc4 ?_
  refine r_wl_loop hlen len 0 _ (r_wk1_Sz (r_mo_Sz hz)) (fun q hq => by rw [r_wk1_un (by omega)]; exact r_mo_at hq) (by omega) (by omega) ?_
  exact r_wk_end hk hw
theorem r_work {d : Nat} {sw : Bool} {gc : Nat} {I : Nat → Nat → Int32} {J : Nat → Nat → Int64} {n len k w c : Nat} {L P : Nat → Nat} {F : Int64} (hz : r_Sz I n L P) (hlen : len ≤ 40) (hl1 : 1 ≤ len) (hk : k < 8) (hw : w < 30) (hwk : I 77 k = nI w) (hc : I 62 9 = nI c) (hc4 : c ≤ 4) (hmg : I 62 20 = nI gc) (hg : gc ≤ 8) (hkg : k < gc) (hbl : f_r_isBlock (lN len) F = 1) (hmay : r_may I w = true) : GM (d + 3) 138 [.ref 62, .int (nI k), .int (nI len), .long F] (qS sw gc I J) (some (.int (r_wkr I L P n len F w k c))) (qS sw gc (r_wks I L P n len F w k c) J) := by
  refine GM_of (by decide) (Nat.le_refl _) (Nat.le_of_ble_eq_true rfl) trivial ?_
  refine G_st (L := 89) (k := 0) (0, [some (.ref 62), some (.int (nI k)), some (.int (nI len)), some (.long F), none], [], qS sw gc I J) (q_hn _ _ _ _) rfl ?_
  refine G_st (L := 89) (k := 2) (2, [some (.ref 62), some (.int (nI k)), some (.int (nI len)), some (.long F), none], [.int (nI k), .ref 62], qS sw gc I J) (q_hn _ _ _ _) rfl ?_
  refine G_callV (b := 62) (ci := 9) (as := [.int (nI k)]) (rest := []) rfl rfl rfl (q_lt (by decide)) (by decide) rfl rfl (Nat.le_of_ble_eq_true rfl) (r_isGang hmg hg (k := k) (by omega)) (Nat.le_refl _) ?_
  refine G_st (L := 89) (k := 0) (5, [some (.ref 62), some (.int (nI k)), some (.int (nI len)), some (.long F), none], [.int 1], qS sw gc I J) (q_hn _ _ _ _) rfl ?_
  refine G_if_eq 17 rfl rfl (fun h9 => absurd h9 (by decide)) (fun _ => ?_)
  refine G_st (L := 89) (k := 3) (11, [some (.ref 62), some (.int (nI k)), some (.int (nI len)), some (.long F), none], [.long F, .long (Int32.toInt64 (nI len))], qS sw gc I J) (q_hn _ _ _ _) rfl ?_
  rw [show Int32.toInt64 (nI len) = lN len from (q_i2lP rfl (by omega))]
  refine G_callS (as := [.long (lN len), .long F]) (rest := []) rfl rfl rfl (Nat.le_of_ble_eq_true rfl) (GM_r (r2 := 1) r_isBlock hbl) (Nat.le_refl _) ?_
  refine G_st (L := 89) (k := 0) (14, [some (.ref 62), some (.int (nI k)), some (.int (nI len)), some (.long F), none], [.int 1], qS sw gc I J) (q_hn _ _ _ _) rfl ?_
  refine G_if_ne 20 rfl rfl (fun _ => ?_) (fun h9 => absurd h9 (by decide))
  refine G_st (L := 89) (k := 2) (22, [some (.ref 62), some (.int (nI k)), some (.int (nI len)), some (.long F), none], [.int (nI k), .ref 62], qS sw gc I J) (q_hn _ _ _ _) rfl ?_
  refine G_callV (b := 62) (ci := 9) (as := [.int (nI k)]) (rest := []) rfl rfl rfl (q_lt (by decide)) (by decide) rfl rfl (Nat.le_of_ble_eq_true rfl) (GM_r (r2 := 1) (r_mayWork hkg hg hw hwk) (by rw [hmay]; rfl)) (Nat.le_refl _) ?_
  refine G_st (L := 89) (k := 0) (25, [some (.ref 62), some (.int (nI k)), some (.int (nI len)), some (.long F), none], [.int 1], qS sw gc I J) (q_hn _ _ _ _) rfl ?_
  refine G_if_eq 38 rfl rfl (fun h9 => absurd h9 (by decide)) (fun _ => ?_)
  refine G_st (L := 89) (k := 4) (32, [some (.ref 62), some (.int (nI k)), some (.int (nI len)), some (.long F), none], [.long F, .int (nI len), .int (nI k), .ref 62], qS sw gc I J) (q_hn _ _ _ _) rfl ?_
  refine G_callV (b := 62) (ci := 9) (as := [.int (nI k), .int (nI len), .long F]) (rest := []) rfl rfl rfl (q_lt (by decide)) (by decide) rfl rfl (Nat.le_of_ble_eq_true rfl) (r_works hz hlen hl1 hk hw hwk hc hc4) (Nat.le_refl _) ?_
  refine G_st (L := 89) (k := 1) (40, [some (.ref 62), some (.int (nI k)), some (.int (nI len)), some (.long F), none], [.int (r_wkr I L P n len F w k c)], qS sw gc (r_wks I L P n len F w k c) J) (q_hn _ _ _ _) rfl ?_
  exact G_iret rfl rfl rfl rfl
theorem r_workM {d : Nat} {sw : Bool} {gc : Nat} {I : Nat → Nat → Int32} {J : Nat → Nat → Int64} (hmg : I 62 20 = nI gc) (hg : gc ≤ 8) {k len w : Nat} {F : Int64} (hlen : len ≤ 40) (hkg : k < gc) (hbl : f_r_isBlock (lN len) F = 1) (hw : w < 30) (hwk : I 77 k = nI w) (hmay : r_may I w = false) : GM (d + 3) 138 [.ref 62, .int (nI k), .int (nI len), .long F] (qS sw gc I J) (some (.int (-1000002))) (qS sw gc I J) := by
  refine GM_of (by decide) (Nat.le_refl _) (Nat.le_of_ble_eq_true rfl) trivial ?_
  refine G_st (L := 89) (k := 0) (0, [some (.ref 62), some (.int (nI k)), some (.int (nI len)), some (.long F), none], [], qS sw gc I J) (q_hn _ _ _ _) rfl ?_
  refine G_st (L := 89) (k := 2) (2, [some (.ref 62), some (.int (nI k)), some (.int (nI len)), some (.long F), none], [.int (nI k), .ref 62], qS sw gc I J) (q_hn _ _ _ _) rfl ?_
  refine G_callV (b := 62) (ci := 9) (as := [.int (nI k)]) (rest := []) rfl rfl rfl (q_lt (by decide)) (by decide) rfl rfl (Nat.le_of_ble_eq_true rfl) (r_isGang hmg hg (k := k) (by omega)) (Nat.le_refl _) ?_
  refine G_st (L := 89) (k := 0) (5, [some (.ref 62), some (.int (nI k)), some (.int (nI len)), some (.long F), none], [.int 1], qS sw gc I J) (q_hn _ _ _ _) rfl ?_
  refine G_if_eq 17 rfl rfl (fun h9 => absurd h9 (by decide)) (fun _ => ?_)
  refine G_st (L := 89) (k := 3) (11, [some (.ref 62), some (.int (nI k)), some (.int (nI len)), some (.long F), none], [.long F, .long (Int32.toInt64 (nI len))], qS sw gc I J) (q_hn _ _ _ _) rfl ?_
  rw [show Int32.toInt64 (nI len) = lN len from (q_i2lP rfl (by omega))]
  refine G_callS (as := [.long (lN len), .long F]) (rest := []) rfl rfl rfl (Nat.le_of_ble_eq_true rfl) (GM_r (r2 := 1) r_isBlock hbl) (Nat.le_refl _) ?_
  refine G_st (L := 89) (k := 0) (14, [some (.ref 62), some (.int (nI k)), some (.int (nI len)), some (.long F), none], [.int 1], qS sw gc I J) (q_hn _ _ _ _) rfl ?_
  refine G_if_ne 20 rfl rfl (fun _ => ?_) (fun h9 => absurd h9 (by decide))
  refine G_st (L := 89) (k := 2) (22, [some (.ref 62), some (.int (nI k)), some (.int (nI len)), some (.long F), none], [.int (nI k), .ref 62], qS sw gc I J) (q_hn _ _ _ _) rfl ?_
  refine G_callV (b := 62) (ci := 9) (as := [.int (nI k)]) (rest := []) rfl rfl rfl (q_lt (by decide)) (by decide) rfl rfl (Nat.le_of_ble_eq_true rfl) (GM_r (r2 := 0) (r_mayWork hkg hg hw hwk) (by rw [hmay]; rfl)) (Nat.le_refl _) ?_
  refine G_st (L := 89) (k := 0) (25, [some (.ref 62), some (.int (nI k)), some (.int (nI len)), some (.long F), none], [.int 0], qS sw gc I J) (q_hn _ _ _ _) rfl ?_
  refine G_if_eq 38 rfl rfl (fun _ => ?_) (fun h9 => absurd h9 (by decide))
  refine G_st (L := 89) (k := 1) (40, [some (.ref 62), some (.int (nI k)), some (.int (nI len)), some (.long F), none], [.int (-1000002)], qS sw gc I J) (q_hn _ _ _ _) rfl ?_
  exact G_iret rfl rfl rfl rfl
theorem r_workN {d : Nat} {sw : Bool} {gc : Nat} {I : Nat → Nat → Int32} {J : Nat → Nat → Int64} (hmg : I 62 20 = nI gc) (hg : gc ≤ 8) {k len : Nat} {F : Int64} (hlen : len ≤ 40) (hkg : k < gc) (hbl : f_r_isBlock (lN len) F = 1) (hwk : I 77 k = -4) : GM (d + 3) 138 [.ref 62, .int (nI k), .int (nI len), .long F] (qS sw gc I J) (some (.int (-1000002))) (qS sw gc I J) := by
  refine GM_of (by decide) (Nat.le_refl _) (Nat.le_of_ble_eq_true rfl) trivial ?_
  refine G_st (L := 89) (k := 0) (0, [some (.ref 62), some (.int (nI k)), some (.int (nI len)), some (.long F), none], [], qS sw gc I J) (q_hn _ _ _ _) rfl ?_
  refine G_st (L := 89) (k := 2) (2, [some (.ref 62), some (.int (nI k)), some (.int (nI len)), some (.long F), none], [.int (nI k), .ref 62], qS sw gc I J) (q_hn _ _ _ _) rfl ?_
  refine G_callV (b := 62) (ci := 9) (as := [.int (nI k)]) (rest := []) rfl rfl rfl (q_lt (by decide)) (by decide) rfl rfl (Nat.le_of_ble_eq_true rfl) (r_isGang hmg hg (k := k) (by omega)) (Nat.le_refl _) ?_
  refine G_st (L := 89) (k := 0) (5, [some (.ref 62), some (.int (nI k)), some (.int (nI len)), some (.long F), none], [.int 1], qS sw gc I J) (q_hn _ _ _ _) rfl ?_
  refine G_if_eq 17 rfl rfl (fun h9 => absurd h9 (by decide)) (fun _ => ?_)
  refine G_st (L := 89) (k := 3) (11, [some (.ref 62), some (.int (nI k)), some (.int (nI len)), some (.long F), none], [.long F, .long (Int32.toInt64 (nI len))], qS sw gc I J) (q_hn _ _ _ _) rfl ?_
  rw [show Int32.toInt64 (nI len) = lN len from (q_i2lP rfl (by omega))]
  refine G_callS (as := [.long (lN len), .long F]) (rest := []) rfl rfl rfl (Nat.le_of_ble_eq_true rfl) (GM_r (r2 := 1) r_isBlock hbl) (Nat.le_refl _) ?_
  refine G_st (L := 89) (k := 0) (14, [some (.ref 62), some (.int (nI k)), some (.int (nI len)), some (.long F), none], [.int 1], qS sw gc I J) (q_hn _ _ _ _) rfl ?_
  refine G_if_ne 20 rfl rfl (fun _ => ?_) (fun h9 => absurd h9 (by decide))
  refine G_st (L := 89) (k := 2) (22, [some (.ref 62), some (.int (nI k)), some (.int (nI len)), some (.long F), none], [.int (nI k), .ref 62], qS sw gc I J) (q_hn _ _ _ _) rfl ?_
  refine G_callV (b := 62) (ci := 9) (as := [.int (nI k)]) (rest := []) rfl rfl rfl (q_lt (by decide)) (by decide) rfl rfl (Nat.le_of_ble_eq_true rfl) (r_mayWorkN hkg hg hwk) (Nat.le_refl _) ?_
  refine G_st (L := 89) (k := 0) (25, [some (.ref 62), some (.int (nI k)), some (.int (nI len)), some (.long F), none], [.int 0], qS sw gc I J) (q_hn _ _ _ _) rfl ?_
  refine G_if_eq 38 rfl rfl (fun _ => ?_) (fun h9 => absurd h9 (by decide))
  refine G_st (L := 89) (k := 1) (40, [some (.ref 62), some (.int (nI k)), some (.int (nI len)), some (.long F), none], [.int (-1000002)], qS sw gc I J) (q_hn _ _ _ _) rfl ?_
  exact G_iret rfl rfl rfl rfl
theorem r_workB {d : Nat} {sw : Bool} {gc : Nat} {I : Nat → Nat → Int32} {J : Nat → Nat → Int64} (hmg : I 62 20 = nI gc) (hg : gc ≤ 8) {k : Nat} (hkg : k < gc) {x : Int32} {F : Int64} (hbl : f_r_isBlock (Int32.toInt64 x) F = 0) : GM (d + 3) 138 [.ref 62, .int (nI k), .int x, .long F] (qS sw gc I J) (some (.int (-1000000))) (qS sw gc I J) := by
  refine GM_of (by decide) (Nat.le_refl _) (Nat.le_of_ble_eq_true rfl) trivial ?_
  refine G_st (L := 89) (k := 0) (0, [some (.ref 62), some (.int (nI k)), some (.int x), some (.long F), none], [], qS sw gc I J) (q_hn _ _ _ _) rfl ?_
  refine G_st (L := 89) (k := 2) (2, [some (.ref 62), some (.int (nI k)), some (.int x), some (.long F), none], [.int (nI k), .ref 62], qS sw gc I J) (q_hn _ _ _ _) rfl ?_
  refine G_callV (b := 62) (ci := 9) (as := [.int (nI k)]) (rest := []) rfl rfl rfl (q_lt (by decide)) (by decide) rfl rfl (Nat.le_of_ble_eq_true rfl) (r_isGang hmg hg (k := k) (by omega)) (Nat.le_refl _) ?_
  refine G_st (L := 89) (k := 0) (5, [some (.ref 62), some (.int (nI k)), some (.int x), some (.long F), none], [.int 1], qS sw gc I J) (q_hn _ _ _ _) rfl ?_
  refine G_if_eq 17 rfl rfl (fun h9 => absurd h9 (by decide)) (fun _ => ?_)
  refine G_st (L := 89) (k := 3) (11, [some (.ref 62), some (.int (nI k)), some (.int x), some (.long F), none], [.long F, .long (Int32.toInt64 x)], qS sw gc I J) (q_hn _ _ _ _) rfl ?_
  refine G_callS (as := [.long (Int32.toInt64 x), .long F]) (rest := []) rfl rfl rfl (Nat.le_of_ble_eq_true rfl) (GM_r (r2 := 0) r_isBlock hbl) (Nat.le_refl _) ?_
  refine G_st (L := 89) (k := 0) (14, [some (.ref 62), some (.int (nI k)), some (.int x), some (.long F), none], [.int 0], qS sw gc I J) (q_hn _ _ _ _) rfl ?_
  refine G_if_ne 20 rfl rfl (fun h9 => absurd h9 (by decide)) (fun _ => ?_)
  refine G_st (L := 89) (k := 1) (19, [some (.ref 62), some (.int (nI k)), some (.int x), some (.long F), none], [.int (-1000000)], qS sw gc I J) (q_hn _ _ _ _) rfl ?_
  exact G_iret rfl rfl rfl rfl
theorem r_workG {d : Nat} {sw : Bool} {gc : Nat} {I : Nat → Nat → Int32} {J : Nat → Nat → Int64} (hmg : I 62 20 = nI gc) (hg : gc ≤ 8) {x : Int32} (hx : Int32.toInt64 x < 0 ∨ lN gc ≤ Int32.toInt64 x) {y : Int32} {F : Int64} : GM (d + 3) 138 [.ref 62, .int x, .int y, .long F] (qS sw gc I J) (some (.int (-1000000))) (qS sw gc I J) := by
  refine GM_of (by decide) (Nat.le_refl _) (Nat.le_of_ble_eq_true rfl) trivial ?_
  refine G_st (L := 89) (k := 0) (0, [some (.ref 62), some (.int x), some (.int y), some (.long F), none], [], qS sw gc I J) (q_hn _ _ _ _) rfl ?_
  refine G_st (L := 89) (k := 2) (2, [some (.ref 62), some (.int x), some (.int y), some (.long F), none], [.int x, .ref 62], qS sw gc I J) (q_hn _ _ _ _) rfl ?_
  refine G_callV (b := 62) (ci := 9) (as := [.int x]) (rest := []) rfl rfl rfl (q_lt (by decide)) (by decide) rfl rfl (Nat.le_of_ble_eq_true rfl) (r_isGangB hmg hg hx) (Nat.le_refl _) ?_
  refine G_st (L := 89) (k := 0) (5, [some (.ref 62), some (.int x), some (.int y), some (.long F), none], [.int 0], qS sw gc I J) (q_hn _ _ _ _) rfl ?_
  refine G_if_eq 17 rfl rfl (fun _ => ?_) (fun h9 => absurd h9 (by decide))
  refine G_st (L := 89) (k := 1) (19, [some (.ref 62), some (.int x), some (.int y), some (.long F), none], [.int (-1000000)], qS sw gc I J) (q_hn _ _ _ _) rfl ?_
  exact G_iret rfl rfl rfl rfl
