theorem q_bleF {a b : Nat} (h : b < a) : Nat.ble a b = false := by
  cases hb : Nat.ble a b with
  | true => exact absurd (Nat.le_of_ble_eq_true hb) (by omega)
  | false => rfl
theorem q_beqF {a b : Nat} (h : ¬ a = b) : Nat.beq a b = false := by
  cases hb : Nat.beq a b with
  | true => exact absurd (Nat.eq_of_beq_eq_true hb) h
  | false => rfl
theorem q_rf_hi {sw : Bool} {gc i k : Nat} (h : 62 < i) : q_rf sw gc i k = cond (Nat.ble 89 i && Nat.ble (i + 1) (2 * gc + 89) && Nat.beq (i % 2) 1 && Nat.beq k 0) (some (i + 1)) none := by
  unfold q_rf
  rw [q_bleF h]
  rfl
theorem q_rf_lo {sw : Bool} {gc gc2 i k : Nat} (h : i ≤ 62) (h2 : ¬ i = 46) : q_rf sw gc i k = q_rf sw gc2 i k := by
  unfold q_rf
  rw [Nat.ble_eq_true_of_le h, q_beqF h2]
  rfl
theorem q_rf46 {sw : Bool} {gc k : Nat} : q_rf sw gc 46 k = cond (Nat.ble (k + 1) gc) (some (2 * k + 89)) none := rfl
theorem q_rf_up {sw : Bool} {gc : Nat} : q_u (q_u (q_z (q_z (q_rf sw gc) (2 * gc + 89) none) (2 * gc + 89 + 1) none) (2 * gc + 89) 0 (some (2 * gc + 89 + 1))) 46 gc (some (2 * gc + 89)) = q_rf sw (gc + 1) := by
  funext i k
  unfold q_u q_z
  by_cases h1 : i ≤ 62
  · rw [if_neg (show ¬ (i = 2 * gc + 89 ∧ k = 0) by omega), if_neg (show ¬ i = 2 * gc + 89 + 1 by omega), if_neg (show ¬ i = 2 * gc + 89 by omega)]
    by_cases h2 : i = 46
    · subst h2
      by_cases h3 : k = gc
      · subst h3
        rw [if_pos ⟨rfl, rfl⟩, q_rf46, Nat.ble_eq_true_of_le (Nat.le_refl _)]; rfl
      · rw [if_neg (by omega), q_rf46, q_rf46]
        by_cases h4 : k < gc
        · rw [Nat.ble_eq_true_of_le (show k + 1 ≤ gc by omega), Nat.ble_eq_true_of_le (show k + 1 ≤ gc + 1 by omega)]
        · rw [q_bleF (show gc < k + 1 by omega), q_bleF (show gc + 1 < k + 1 by omega)]
    · rw [if_neg (by omega)]
      exact q_rf_lo h1 h2
  · rw [if_neg (show ¬ (i = 46 ∧ k = gc) by omega), q_rf_hi (by omega), q_rf_hi (by omega)]
    by_cases h2 : i = 2 * gc + 89
    · subst h2
      rw [Nat.ble_eq_true_of_le (show 89 ≤ 2 * gc + 89 by omega), Nat.ble_eq_true_of_le (show 2 * gc + 89 + 1 ≤ 2 * (gc + 1) + 89 by omega), show Nat.beq ((2 * gc + 89) % 2) 1 = true by rw [show (2 * gc + 89) % 2 = 1 by omega]; rfl]
      by_cases h3 : k = 0
      · subst h3; rw [if_pos ⟨rfl, rfl⟩]; rfl
      · rw [if_neg (by omega), if_neg (by omega), if_pos rfl, q_beqF h3]; rfl
    · rw [if_neg (by omega)]
      by_cases h3 : i = 2 * gc + 89 + 1
      · subst h3
        rw [if_pos rfl, show Nat.beq ((2 * gc + 89 + 1) % 2) 1 = false by rw [show (2 * gc + 89 + 1) % 2 = 0 by omega]; rfl]
        rw [Bool.and_false]; rfl
      · rw [if_neg h3, if_neg h2]
        by_cases h4 : i < 2 * gc + 89
        · rw [Nat.ble_eq_true_of_le (show i + 1 ≤ 2 * gc + 89 by omega), Nat.ble_eq_true_of_le (show i + 1 ≤ 2 * (gc + 1) + 89 by omega)]
        · rw [q_bleF (show 2 * gc + 89 < i + 1 by omega), q_bleF (show 2 * (gc + 1) + 89 < i + 1 by omega)]
theorem x_fillT_loop {d n : Nat} {rf : Nat → Nat → Option Nat} {J : Nat → Nat → Int64} {r : Nat} {v : Int32} (hs : q_SH r = some (.inr (0, 30))) (hr : r < n) : ∀ (m i : Nat) (I : Nat → Nat → Int32), i + m = 30 → G d 159 (5, [some (.ref r), some (.int v), some (.int (nI i)), some (.int 30)], [], ((n, rf), (I, J))) none ((n, rf), (q_fil I r i 30 v, J)) := by
  intro m
  induction m with
  | zero =>
    intro i I h
    obtain rfl : i = 30 := by omega
    rw [q_fil_end]
    refine G_st (L := 0) (k := 2) (7, [some (.ref r), some (.int v), some (.int 30), some (.int 30)], [.int 30, .int 30], ((n, rf), (I, J))) (Nat.zero_le _) rfl ?_
    refine G_icmp_ge 20 rfl rfl (fun _ => ?_) (fun h9 => absurd h9 (by decide))
    exact G_ret rfl rfl rfl rfl
  | succ m ih =>
    intro i I h
    rw [← q_fil_step I v (by omega)]
    refine G_st (L := 0) (k := 2) (7, [some (.ref r), some (.int v), some (.int (nI i)), some (.int 30)], [.int 30, .int (nI i)], ((n, rf), (I, J))) (Nat.zero_le _) rfl ?_
    refine G_icmp_ge 20 rfl rfl (fun h9 => absurd h9 (nI_ge (b := 30) (by omega) (by decide))) (fun _ => ?_)
    refine G_st (L := 0) (k := 3) (13, [some (.ref r), some (.int v), some (.int (nI i)), some (.int 30)], [.int v, .int (nI i), .ref r], ((n, rf), (I, J))) (Nat.zero_le _) rfl ?_
    refine G_iast (i := r) (n := 30) rfl hs hr (vp_in_nI (by omega) (by decide)) ?_
    rw [q_clamp (n := i) (by omega)]
    refine G_st (L := 0) (k := 2) (5, [some (.ref r), some (.int v), some (.int ((nI i) + 1)), some (.int 30)], [], ((n, rf), (q_u I r i v, J))) (Nat.zero_le _) rfl ?_
    rw [show (nI i) + 1 = nI (i + 1) from (q_addP rfl rfl)]
    exact ih (i + 1) _ (by omega)
theorem x_fillT {d n : Nat} {rf : Nat → Nat → Option Nat} {J : Nat → Nat → Int64} {I : Nat → Nat → Int32} {r : Nat} {v : Int32} (hs : q_SH r = some (.inr (0, 30))) (hr : r < n) : GM d 159 [.ref r, .int v] ((n, rf), (I, J)) none ((n, rf), (q_fil I r 0 30 v, J)) := by
  refine GM_of (by decide) (Nat.le_refl _) (Nat.le_of_ble_eq_true rfl) trivial ?_
  refine G_st (L := 0) (k := 3) (3, [some (.ref r), some (.int v), some (.int 0), none], [.ref r], ((n, rf), (I, J))) (Nat.zero_le _) rfl ?_
  refine G_alen (t := 0) (n := 30) (x := 30) rfl hs (by decide) hr rfl ?_
  refine G_st (L := 0) (k := 1) (5, [some (.ref r), some (.int v), some (.int 0), some (.int 30)], [], ((n, rf), (I, J))) (Nat.zero_le _) rfl ?_
  exact x_fillT_loop hs hr 30 0 I rfl
def x_gi (I : Nat → Nat → Int32) (r : Nat) (v : Int32) : Nat → Nat → Int32 := q_u (q_u (q_u (q_u (q_u (q_u (q_u I r 2 0) r 3 0) r 4 (-4)) r 5 0) r 6 0) r 7 0) r 1 v
theorem x_gangInit {d n : Nat} {rf : Nat → Nat → Option Nat} {J : Nat → Nat → Int64} {I : Nat → Nat → Int32} {r : Nat} {v : Int32} (hs : q_SH r = some (.inl 1)) (hr : r < n) (hsn : q_SH n = some (.inr (0, 30))) : GM (d + 1) 10 [.ref r, .int v] ((n, rf), (I, J)) none (((n + 1, q_u (q_z rf n none) r 0 (some n)), (q_fil (x_gi (q_z I n 0) r v) n 0 30 (-4), q_z J n 0)) : qM) := by
  refine GM_of (by decide) (show n ≤ n + 1 by omega) (Nat.le_of_ble_eq_true rfl) trivial ?_
  refine G_st (L := 0) (k := 1) (1, [some (.ref r), some (.int v)], [.ref r], ((n, rf), (I, J))) (Nat.zero_le _) rfl ?_
  refine G_oinit rfl (by decide) (by omega) (Nat.le_of_ble_eq_true rfl) ?_
  refine G_st (L := 0) (k := 2) (7, [some (.ref r), some (.int v)], [.int 30, .ref r], ((n, rf), (I, J))) (Nat.zero_le _) rfl ?_
  refine G_newarr (t := 0) (len := 30) rfl hsn (by decide) rfl (by decide) rfl (by decide) (Nat.le_refl _) ?_
  refine G_st (L := 0) (k := 0) (9, [some (.ref r), some (.int v)], [.ref n, .ref r], ((n + 1, q_z rf n none), ((q_z I n 0), (q_z J n 0)))) (Nat.zero_le _) rfl ?_
  refine G_put (ci := 1) (k := 0) (i := r) (M1 := ((n + 1, q_u (q_z rf n none) r 0 (some n)), ((q_z I n 0), (q_z J n 0)))) rfl rfl hs (show r < n + 1 by omega) rfl rfl rfl ?_
  refine G_st (L := 0) (k := 2) (14, [some (.ref r), some (.int v)], [.int 0, .ref r], ((n + 1, q_u (q_z rf n none) r 0 (some n)), ((q_z I n 0), (q_z J n 0)))) (Nat.zero_le _) rfl ?_
  refine G_put (ci := 1) (k := 2) (i := r) (M1 := ((n + 1, q_u (q_z rf n none) r 0 (some n)), (q_u (q_z I n 0) r 2 0, (q_z J n 0)))) rfl rfl hs (show r < n + 1 by omega) rfl rfl rfl ?_
  refine G_st (L := 0) (k := 2) (19, [some (.ref r), some (.int v)], [.int 0, .ref r], ((n + 1, q_u (q_z rf n none) r 0 (some n)), (q_u (q_z I n 0) r 2 0, (q_z J n 0)))) (Nat.zero_le _) rfl ?_
  refine G_put (ci := 1) (k := 3) (i := r) (M1 := ((n + 1, q_u (q_z rf n none) r 0 (some n)), (q_u (q_u (q_z I n 0) r 2 0) r 3 0, (q_z J n 0)))) rfl rfl hs (show r < n + 1 by omega) rfl rfl rfl ?_
  refine G_st (L := 0) (k := 2) (25, [some (.ref r), some (.int v)], [.int (-4), .ref r], ((n + 1, q_u (q_z rf n none) r 0 (some n)), (q_u (q_u (q_z I n 0) r 2 0) r 3 0, (q_z J n 0)))) (Nat.zero_le _) rfl ?_
  refine G_put (ci := 1) (k := 4) (i := r) (M1 := ((n + 1, q_u (q_z rf n none) r 0 (some n)), (q_u (q_u (q_u (q_z I n 0) r 2 0) r 3 0) r 4 (-4), (q_z J n 0)))) rfl rfl hs (show r < n + 1 by omega) rfl rfl rfl ?_
  refine G_st (L := 0) (k := 2) (30, [some (.ref r), some (.int v)], [.int 0, .ref r], ((n + 1, q_u (q_z rf n none) r 0 (some n)), (q_u (q_u (q_u (q_z I n 0) r 2 0) r 3 0) r 4 (-4), (q_z J n 0)))) (Nat.zero_le _) rfl ?_
  refine G_put (ci := 1) (k := 5) (i := r) (M1 := ((n + 1, q_u (q_z rf n none) r 0 (some n)), (q_u (q_u (q_u (q_u (q_z I n 0) r 2 0) r 3 0) r 4 (-4)) r 5 0, (q_z J n 0)))) rfl rfl hs (show r < n + 1 by omega) rfl rfl rfl ?_
  refine G_st (L := 0) (k := 2) (35, [some (.ref r), some (.int v)], [.int 0, .ref r], ((n + 1, q_u (q_z rf n none) r 0 (some n)), (q_u (q_u (q_u (q_u (q_z I n 0) r 2 0) r 3 0) r 4 (-4)) r 5 0, (q_z J n 0)))) (Nat.zero_le _) rfl ?_
  refine G_put (ci := 1) (k := 6) (i := r) (M1 := ((n + 1, q_u (q_z rf n none) r 0 (some n)), (q_u (q_u (q_u (q_u (q_u (q_z I n 0) r 2 0) r 3 0) r 4 (-4)) r 5 0) r 6 0, (q_z J n 0)))) rfl rfl hs (show r < n + 1 by omega) rfl rfl rfl ?_
  refine G_st (L := 0) (k := 2) (40, [some (.ref r), some (.int v)], [.int 0, .ref r], ((n + 1, q_u (q_z rf n none) r 0 (some n)), (q_u (q_u (q_u (q_u (q_u (q_z I n 0) r 2 0) r 3 0) r 4 (-4)) r 5 0) r 6 0, (q_z J n 0)))) (Nat.zero_le _) rfl ?_
  refine G_put (ci := 1) (k := 7) (i := r) (M1 := ((n + 1, q_u (q_z rf n none) r 0 (some n)), (q_u (q_u (q_u (q_u (q_u (q_u (q_z I n 0) r 2 0) r 3 0) r 4 (-4)) r 5 0) r 6 0) r 7 0, (q_z J n 0)))) rfl rfl hs (show r < n + 1 by omega) rfl rfl rfl ?_
  refine G_st (L := 0) (k := 2) (45, [some (.ref r), some (.int v)], [.int v, .ref r], ((n + 1, q_u (q_z rf n none) r 0 (some n)), (q_u (q_u (q_u (q_u (q_u (q_u (q_z I n 0) r 2 0) r 3 0) r 4 (-4)) r 5 0) r 6 0) r 7 0, (q_z J n 0)))) (Nat.zero_le _) rfl ?_
  refine G_put (ci := 1) (k := 1) (i := r) (M1 := ((n + 1, q_u (q_z rf n none) r 0 (some n)), (q_u (q_u (q_u (q_u (q_u (q_u (q_u (q_z I n 0) r 2 0) r 3 0) r 4 (-4)) r 5 0) r 6 0) r 7 0) r 1 v, (q_z J n 0)))) rfl rfl hs (show r < n + 1 by omega) rfl rfl rfl ?_
  refine G_st (L := 0) (k := 1) (49, [some (.ref r), some (.int v)], [.ref r], ((n + 1, q_u (q_z rf n none) r 0 (some n)), (q_u (q_u (q_u (q_u (q_u (q_u (q_u (q_z I n 0) r 2 0) r 3 0) r 4 (-4)) r 5 0) r 6 0) r 7 0) r 1 v, (q_z J n 0)))) (Nat.zero_le _) rfl ?_
  refine G_get (ci := 1) (k := 0) (i := r) rfl rfl hs (show r < n + 1 by omega) ?_
  rw [show q_av (((n + 1, q_u (q_z rf n none) r 0 (some n)), (q_u (q_u (q_u (q_u (q_u (q_u (q_u (q_z I n 0) r 2 0) r 3 0) r 4 (-4)) r 5 0) r 6 0) r 7 0) r 1 v, (q_z J n 0)))) r (q_fty 1 0) 0 = .ref n from congrArg va_rf (q_us _ _ _ _)]
  refine G_st (L := 0) (k := 1) (54, [some (.ref r), some (.int v)], [.int (-4), .ref n], ((n + 1, q_u (q_z rf n none) r 0 (some n)), (q_u (q_u (q_u (q_u (q_u (q_u (q_u (q_z I n 0) r 2 0) r 3 0) r 4 (-4)) r 5 0) r 6 0) r 7 0) r 1 v, (q_z J n 0)))) (Nat.zero_le _) rfl ?_
  refine G_callS (as := [.ref n, .int (-4)]) (rest := []) rfl rfl rfl (Nat.le_of_ble_eq_true rfl) (x_fillT hsn (Nat.lt_succ_self _)) (Nat.le_refl _) ?_
  refine G_st (L := 0) (k := 0) (57, [some (.ref r), some (.int v)], [], ((n + 1, q_u (q_z rf n none) r 0 (some n)), ((q_fil (x_gi (q_z I n 0) r v) n 0 30 (-4)), (q_z J n 0)))) (Nat.zero_le _) rfl ?_
  exact G_ret rfl rfl rfl rfl
def x_gg (I : Nat → Nat → Int32) (gc : Nat) (v : Int32) : Nat → Nat → Int32 := q_u (q_fil (x_gi (q_z (q_z I (2 * gc + 89) 0) (2 * gc + 89 + 1) 0) (2 * gc + 89) v) (2 * gc + 89 + 1) 0 30 (-4)) 0 6 (nI (gc + 1))
def x_gJ (J : Nat → Nat → Int64) (gc : Nat) : Nat → Nat → Int64 := q_z (q_z J (2 * gc + 89) 0) (2 * gc + 89 + 1) 0
theorem x_gangA {d : Nat} {sw : Bool} {gc : Nat} {I : Nat → Nat → Int32} {J : Nat → Nat → Int64} {v : Int32} (h : v < 1 ∨ 6 < v) : GM d 76 [.ref 0, .int v] (qS sw gc I J) (some (.int (-1))) (qS sw gc I J) := by
  refine GM_of (by decide) (Nat.le_refl _) (Nat.le_of_ble_eq_true rfl) trivial ?_
  refine G_st (L := 89) (k := 0) (0, [some (.ref 0), some (.int v), none], [], qS sw gc I J) (q_hn _ _ _ _) rfl ?_
  refine G_st (L := 89) (k := 2) (2, [some (.ref 0), some (.int v), none], [.int 1, .int v], qS sw gc I J) (q_hn _ _ _ _) rfl ?_
  refine G_icmp_lt 11 rfl rfl (fun h1 => ?_) (fun h1 => ?_)
  · skip
    refine G_st (L := 89) (k := 1) (12, [some (.ref 0), some (.int v), none], [.int (-1)], qS sw gc I J) (q_hn _ _ _ _) rfl ?_
    exact G_iret rfl rfl rfl rfl
  · skip
    refine G_st (L := 89) (k := 2) (8, [some (.ref 0), some (.int v), none], [.int 6, .int v], qS sw gc I J) (q_hn _ _ _ _) rfl ?_
    refine G_icmp_le 13 rfl rfl (fun h9 => absurd h9 (fun h9 => absurd (h.resolve_left h1) (Int32.not_lt.mpr h9))) (fun _ => ?_)
    refine G_st (L := 89) (k := 1) (12, [some (.ref 0), some (.int v), none], [.int (-1)], qS sw gc I J) (q_hn _ _ _ _) rfl ?_
    exact G_iret rfl rfl rfl rfl
theorem x_gangB {d : Nat} {sw : Bool} {gc : Nat} {I : Nat → Nat → Int32} {J : Nat → Nat → Int64} {v : Int32} (h1 : ¬ v < 1) (h2 : ¬ 6 < v) (hg : ¬ I 0 6 < 8) : GM d 76 [.ref 0, .int v] (qS sw gc I J) (some (.int (-3))) (qS sw gc I J) := by
  refine GM_of (by decide) (Nat.le_refl _) (Nat.le_of_ble_eq_true rfl) trivial ?_
  refine G_st (L := 89) (k := 0) (0, [some (.ref 0), some (.int v), none], [], qS sw gc I J) (q_hn _ _ _ _) rfl ?_
  refine G_st (L := 89) (k := 2) (2, [some (.ref 0), some (.int v), none], [.int 1, .int v], qS sw gc I J) (q_hn _ _ _ _) rfl ?_
  refine G_icmp_lt 11 rfl rfl (fun h9 => absurd h9 h1) (fun _ => ?_)
  refine G_st (L := 89) (k := 2) (8, [some (.ref 0), some (.int v), none], [.int 6, .int v], qS sw gc I J) (q_hn _ _ _ _) rfl ?_
  refine G_icmp_le 13 rfl rfl (fun _ => ?_) (fun h9 => absurd (Int32.not_lt.mp h2) h9)
  refine G_st (L := 89) (k := 3) (19, [some (.ref 0), some (.int v), none], [.int 8, .int (I 0 6)], qS sw gc I J) (q_hn _ _ _ _) rfl ?_
  refine G_icmp_lt 25 rfl rfl (fun h9 => absurd h9 hg) (fun _ => ?_)
  refine G_st (L := 89) (k := 1) (24, [some (.ref 0), some (.int v), none], [.int (-3)], qS sw gc I J) (q_hn _ _ _ _) rfl ?_
  exact G_iret rfl rfl rfl rfl
theorem q_filR {I : Nat → Nat → Int32} {a b : Nat} {r v : Nat} {x z : Int32} (h : ¬ a = r) : q_fil I r v 30 x a b = I a b := by
  unfold q_fil
  rw [if_neg (by omega)]
theorem x_gi06 {I : Nat → Nat → Int32} {gc : Nat} {v : Int32} : q_fil (x_gi (q_z (q_z I (2 * gc + 89) 0) (2 * gc + 89 + 1) 0) (2 * gc + 89) v) (2 * gc + 89 + 1) 0 30 (-4) 0 6 = I 0 6 := by
  unfold q_fil x_gi q_z
  rw [if_neg (by omega), q_un _ _ (by omega), q_un _ _ (by omega), q_un _ _ (by omega), q_un _ _ (by omega), q_un _ _ (by omega), q_un _ _ (by omega), q_un _ _ (by omega), if_neg (by omega), if_neg (by omega)]
theorem x_gangC {d : Nat} {sw : Bool} {gc : Nat} {I : Nat → Nat → Int32} {J : Nat → Nat → Int64} {v : Int32} (h1 : ¬ v < 1) (h2 : ¬ 6 < v) (hg : I 0 6 = nI gc) (hc : gc < 8) : GM (d + 2) 76 [.ref 0, .int v] (qS sw gc I J) (some (.int (nI gc))) (qS sw (gc + 1) (x_gg I gc v) (x_gJ J gc)) := by
  refine GM_of (by decide) (show 2 * gc + 89 ≤ 2 * (gc + 1) + 89 by omega) (Nat.le_of_ble_eq_true rfl) trivial ?_
  refine G_st (L := 89) (k := 2) (2, [some (.ref 0), some (.int v), none], [.int 1, .int v], qS sw gc I J) (q_hn _ _ _ _) rfl ?_
  refine G_icmp_lt 11 rfl rfl (fun h9 => absurd h9 h1) (fun _ => ?_)
  refine G_st (L := 89) (k := 2) (8, [some (.ref 0), some (.int v), none], [.int 6, .int v], qS sw gc I J) (q_hn _ _ _ _) rfl ?_
  refine G_icmp_le 13 rfl rfl (fun _ => ?_) (fun h9 => absurd (Int32.not_lt.mp h2) h9)
  refine G_st (L := 89) (k := 3) (19, [some (.ref 0), some (.int v), none], [.int 8, .int (I 0 6)], qS sw gc I J) (q_hn _ _ _ _) rfl ?_
  rw [show I 0 6 = nI gc from hg]
  refine G_icmp_lt 25 rfl rfl (fun _ => ?_) (fun h9 => absurd (nI_lt (b := 8) (by omega) (by decide)) h9)
  refine G_st (L := 89) (k := 6) (35, [some (.ref 0), some (.int v), some (.int (I 0 6))], [.int (I 0 6), .ref 46], qS sw gc I J) (q_hn _ _ _ _) rfl ?_
  rw [show I 0 6 = nI gc from hg]
  refine G_new (ci := 1) rfl rfl (q_shG (by omega)).1 (show 2 * gc + 89 + 1 ≤ 2 * (gc + 1) + 89 by omega) ?_
  refine G_st (L := 89) (k := 2) (40, [some (.ref 0), some (.int v), some (.int (nI gc))], [.int v, .ref (2 * gc + 89), .ref (2 * gc + 89), .int (nI gc), .ref 46], ((2 * gc + 89 + 1, q_z (q_rf sw gc) (2 * gc + 89) none), ((q_z I (2 * gc + 89) 0), (q_z J (2 * gc + 89) 0)))) (show 89 ≤ 2 * gc + 89 + 1 by omega) rfl ?_
  refine G_callI (b := 2 * gc + 89) (as := [.int v]) (rest := [.ref (2 * gc + 89), .int (nI gc), .ref 46]) rfl rfl rfl (Nat.le_of_ble_eq_true rfl) (x_gangInit (q_shG (by omega)).1 (Nat.lt_succ_self _) (q_shG (by omega)).2) (show 2 * gc + 89 + 1 + 1 ≤ 2 * (gc + 1) + 89 by omega) ?_
  refine G_st (L := 89) (k := 0) (43, [some (.ref 0), some (.int v), some (.int (nI gc))], [.ref (2 * gc + 89), .int (nI gc), .ref 46], ((2 * gc + 89 + 1 + 1, q_u (q_z (q_z (q_rf sw gc) (2 * gc + 89) none) (2 * gc + 89 + 1) none) (2 * gc + 89) 0 (some (2 * gc + 89 + 1))), ((q_fil (x_gi (q_z (q_z I (2 * gc + 89) 0) (2 * gc + 89 + 1) 0) (2 * gc + 89) v) (2 * gc + 89 + 1) 0 30 (-4)), (x_gJ J gc)))) (show 89 ≤ 2 * gc + 89 + 1 + 1 by omega) rfl ?_
  refine G_aast (t := 5) (n := 8) (ci := 1) rfl rfl (by decide) (show 46 < 2 * gc + 89 + 1 + 1 by omega) (vp_in_nI (by omega) (by decide)) (q_shG (by omega)).1 (show 2 * gc + 89 < 2 * gc + 89 + 1 + 1 by omega) (by decide) rfl ?_
  rw [q_clamp (n := gc) (by omega)]
  refine G_st (L := 89) (k := 7) (55, [some (.ref 0), some (.int v), some (.int (nI gc))], [.int (nI gc)], ((2 * gc + 89 + 1 + 1, q_u (q_u (q_z (q_z (q_rf sw gc) (2 * gc + 89) none) (2 * gc + 89 + 1) none) (2 * gc + 89) 0 (some (2 * gc + 89 + 1))) 46 gc (some (2 * gc + 89))), (q_u (q_fil (x_gi (q_z (q_z I (2 * gc + 89) 0) (2 * gc + 89 + 1) 0) (2 * gc + 89) v) (2 * gc + 89 + 1) 0 30 (-4)) 0 6 (((q_fil (x_gi (q_z (q_z I (2 * gc + 89) 0) (2 * gc + 89 + 1) 0) (2 * gc + 89) v) (2 * gc + 89 + 1) 0 30 (-4)) 0 6) + 1), (x_gJ J gc)))) (show 89 ≤ 2 * gc + 89 + 1 + 1 by omega) rfl ?_
  exact G_iret rfl rfl rfl (by unfold x_gg; rw [show nI (gc + 1) = I 0 6 + 1 by rw [hg]; exact (q_addP rfl rfl).symm]; unfold qS; rw [q_rf_up, x_gi06]; rfl)
