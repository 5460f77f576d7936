def f_isGoodness (v : Int32) : Int32 := if v < 0 then 0 else if 9 < v then 0 else 1
theorem m_isGoodness {d : Nat} {M : qM} (v : Int32) : GM d 1 [.int v] (M) (some (.int (f_isGoodness v))) (M) := by
  refine GM_of (by decide) (Nat.le_refl _) (Nat.le_of_ble_eq_true rfl) (by unfold f_isGoodness; split <;> first | rfl | (split <;> first | rfl | (split <;> rfl))) ?_
  refine G_st (L := 0) (k := 0) (0, [some (.int v)], [], M) (Nat.zero_le _) rfl ?_
  refine G_st (L := 0) (k := 1) (1, [some (.int v)], [.int v], M) (Nat.zero_le _) rfl ?_
  refine G_if_lt 14 rfl rfl (fun h1 => ?_) (fun h1 => ?_)
  · skip
    refine G_st (L := 0) (k := 1) (15, [some (.int v)], [.int 0], M) (Nat.zero_le _) rfl ?_
    exact G_iret rfl rfl (by rw [f_isGoodness, if_pos h1]) rfl
  · skip
    refine G_st (L := 0) (k := 2) (7, [some (.int v)], [.int 9, .int v], M) (Nat.zero_le _) rfl ?_
    refine G_icmp_gt 14 rfl rfl (fun h2 => ?_) (fun h2 => ?_)
    · skip
      refine G_st (L := 0) (k := 1) (15, [some (.int v)], [.int 0], M) (Nat.zero_le _) rfl ?_
      exact G_iret rfl rfl (by rw [f_isGoodness, if_neg h1, if_pos h2]) rfl
    · skip
      refine G_st (L := 0) (k := 2) (15, [some (.int v)], [.int 1], M) (Nat.zero_le _) rfl ?_
      exact G_iret rfl rfl (by rw [f_isGoodness, if_neg h1, if_neg h2]) rfl
def f_indexOf (g c : Int32) : Int32 := if g < 0 then (-4) else if 5 ≤ g then (-4) else if c < 0 then (-4) else if c < 6 then (6 * g) + c else (-4)
theorem m_indexOf {d : Nat} {M : qM} (g c : Int32) : GM d 2 [.int g, .int c] (M) (some (.int (f_indexOf g c))) (M) := by
  refine GM_of (by decide) (Nat.le_refl _) (Nat.le_of_ble_eq_true rfl) trivial ?_
  refine G_st (L := 0) (k := 0) (0, [some (.int g), some (.int c)], [], M) (Nat.zero_le _) rfl ?_
  refine G_st (L := 0) (k := 1) (1, [some (.int g), some (.int c)], [.int g], M) (Nat.zero_le _) rfl ?_
  refine G_if_lt 19 rfl rfl (fun h1 => ?_) (fun h1 => ?_)
  · skip
    refine G_st (L := 0) (k := 1) (21, [some (.int g), some (.int c)], [.int (-4)], M) (Nat.zero_le _) rfl ?_
    exact G_iret rfl rfl (by rw [f_indexOf, if_pos h1]) rfl
  · skip
    refine G_st (L := 0) (k := 2) (6, [some (.int g), some (.int c)], [.int 5, .int g], M) (Nat.zero_le _) rfl ?_
    refine G_icmp_ge 19 rfl rfl (fun h2 => ?_) (fun h2 => ?_)
    · skip
      refine G_st (L := 0) (k := 1) (21, [some (.int g), some (.int c)], [.int (-4)], M) (Nat.zero_le _) rfl ?_
      exact G_iret rfl rfl (by rw [f_indexOf, if_neg h1, if_pos h2]) rfl
    · skip
      refine G_st (L := 0) (k := 1) (10, [some (.int g), some (.int c)], [.int c], M) (Nat.zero_le _) rfl ?_
      refine G_if_lt 19 rfl rfl (fun h3 => ?_) (fun h3 => ?_)
      · skip
        refine G_st (L := 0) (k := 1) (21, [some (.int g), some (.int c)], [.int (-4)], M) (Nat.zero_le _) rfl ?_
        exact G_iret rfl rfl (by rw [f_indexOf, if_neg h1, if_neg h2, if_pos h3]) rfl
      · skip
        refine G_st (L := 0) (k := 2) (16, [some (.int g), some (.int c)], [.int 6, .int c], M) (Nat.zero_le _) rfl ?_
        refine G_icmp_lt 22 rfl rfl (fun h4 => ?_) (fun h4 => ?_)
        · skip
          refine G_st (L := 0) (k := 5) (28, [some (.int g), some (.int c)], [.int ((6 * g) + c)], M) (Nat.zero_le _) rfl ?_
          exact G_iret rfl rfl (by rw [f_indexOf, if_neg h1, if_neg h2, if_neg h3, if_pos h4]) rfl
        · skip
          refine G_st (L := 0) (k := 1) (21, [some (.int g), some (.int c)], [.int (-4)], M) (Nat.zero_le _) rfl ?_
          exact G_iret rfl rfl (by rw [f_indexOf, if_neg h1, if_neg h2, if_neg h3, if_neg h4]) rfl
def f_isLane (v : Int32) : Int32 := if v < 0 then 0 else if 2 < v then 0 else 1
theorem m_isLane {d : Nat} {M : qM} (v : Int32) : GM d 54 [.int v] (M) (some (.int (f_isLane v))) (M) := by
  refine GM_of (by decide) (Nat.le_refl _) (Nat.le_of_ble_eq_true rfl) (by unfold f_isLane; split <;> first | rfl | (split <;> first | rfl | (split <;> rfl))) ?_
  refine G_st (L := 0) (k := 0) (0, [some (.int v)], [], M) (Nat.zero_le _) rfl ?_
  refine G_st (L := 0) (k := 1) (1, [some (.int v)], [.int v], M) (Nat.zero_le _) rfl ?_
  refine G_if_lt 13 rfl rfl (fun h1 => ?_) (fun h1 => ?_)
  · skip
    refine G_st (L := 0) (k := 1) (14, [some (.int v)], [.int 0], M) (Nat.zero_le _) rfl ?_
    exact G_iret rfl rfl (by rw [f_isLane, if_pos h1]) rfl
  · skip
    refine G_st (L := 0) (k := 2) (6, [some (.int v)], [.int 2, .int v], M) (Nat.zero_le _) rfl ?_
    refine G_icmp_gt 13 rfl rfl (fun h2 => ?_) (fun h2 => ?_)
    · skip
      refine G_st (L := 0) (k := 1) (14, [some (.int v)], [.int 0], M) (Nat.zero_le _) rfl ?_
      exact G_iret rfl rfl (by rw [f_isLane, if_neg h1, if_pos h2]) rfl
    · skip
      refine G_st (L := 0) (k := 2) (14, [some (.int v)], [.int 1], M) (Nat.zero_le _) rfl ?_
      exact G_iret rfl rfl (by rw [f_isLane, if_neg h1, if_neg h2]) rfl
def f_isSlate (a b : Int32) : Int32 := if a < 1 then 0 else if 20 < a then 0 else if b < 1 then 0 else if 200 < b then 0 else 1
theorem m_isSlate {d : Nat} {M : qM} (a b : Int32) : GM d 42 [.int a, .int b] (M) (some (.int (f_isSlate a b))) (M) := by
  refine GM_of (by decide) (Nat.le_refl _) (Nat.le_of_ble_eq_true rfl) (by unfold f_isSlate; repeat (first | rfl | split)) ?_
  refine G_st (L := 0) (k := 0) (0, [some (.int a), some (.int b)], [], M) (Nat.zero_le _) rfl ?_
  refine G_st (L := 0) (k := 2) (2, [some (.int a), some (.int b)], [.int 1, .int a], M) (Nat.zero_le _) rfl ?_
  refine G_icmp_lt 27 rfl rfl (fun h1 => ?_) (fun h1 => ?_)
  · skip
    refine G_st (L := 0) (k := 1) (28, [some (.int a), some (.int b)], [.int 0], M) (Nat.zero_le _) rfl ?_
    exact G_iret rfl rfl (by rw [f_isSlate, if_pos h1]) rfl
  · skip
    refine G_st (L := 0) (k := 2) (8, [some (.int a), some (.int b)], [.int 20, .int a], M) (Nat.zero_le _) rfl ?_
    refine G_icmp_gt 27 rfl rfl (fun h2 => ?_) (fun h2 => ?_)
    · skip
      refine G_st (L := 0) (k := 1) (28, [some (.int a), some (.int b)], [.int 0], M) (Nat.zero_le _) rfl ?_
      exact G_iret rfl rfl (by rw [f_isSlate, if_neg h1, if_pos h2]) rfl
    · skip
      refine G_st (L := 0) (k := 2) (13, [some (.int a), some (.int b)], [.int 1, .int b], M) (Nat.zero_le _) rfl ?_
      refine G_icmp_lt 27 rfl rfl (fun h3 => ?_) (fun h3 => ?_)
      · skip
        refine G_st (L := 0) (k := 1) (28, [some (.int a), some (.int b)], [.int 0], M) (Nat.zero_le _) rfl ?_
        exact G_iret rfl rfl (by rw [f_isSlate, if_neg h1, if_neg h2, if_pos h3]) rfl
      · skip
        refine G_st (L := 0) (k := 2) (20, [some (.int a), some (.int b)], [.int 200, .int b], M) (Nat.zero_le _) rfl ?_
        refine G_icmp_gt 27 rfl rfl (fun h4 => ?_) (fun h4 => ?_)
        · skip
          refine G_st (L := 0) (k := 1) (28, [some (.int a), some (.int b)], [.int 0], M) (Nat.zero_le _) rfl ?_
          exact G_iret rfl rfl (by rw [f_isSlate, if_neg h1, if_neg h2, if_neg h3, if_pos h4]) rfl
        · skip
          refine G_st (L := 0) (k := 2) (28, [some (.int a), some (.int b)], [.int 1], M) (Nat.zero_le _) rfl ?_
          exact G_iret rfl rfl (by rw [f_isSlate, if_neg h1, if_neg h2, if_neg h3, if_neg h4]) rfl
def f_isBlock (a b : Int64) : Int32 := if (lg_cmp a 1) < 0 then 0 else if 0 < (lg_cmp a 40) then 0 else if (lg_cmp ((Int64.toUInt64 b >>> ((Int32.toInt64 (Int64.toInt32 a)).toUInt64 &&& Int64.toUInt64 63)).toInt64) 0) = 0 then 1 else 0
theorem m_isBlock {d : Nat} {M : qM} (a b : Int64) : GM d 43 [.long a, .long b] (M) (some (.int (f_isBlock a b))) (M) := by
  refine GM_of (by decide) (Nat.le_refl _) (Nat.le_of_ble_eq_true rfl) (by unfold f_isBlock; repeat (first | rfl | split)) ?_
  refine G_st (L := 0) (k := 0) (0, [some (.long a), none, some (.long b), none], [], M) (Nat.zero_le _) rfl ?_
  refine G_st (L := 0) (k := 3) (3, [some (.long a), none, some (.long b), none], [.int (lg_cmp a 1)], M) (Nat.zero_le _) rfl ?_
  refine G_if_lt 27 rfl rfl (fun h1 => ?_) (fun h1 => ?_)
  · skip
    refine G_st (L := 0) (k := 1) (28, [some (.long a), none, some (.long b), none], [.int 0], M) (Nat.zero_le _) rfl ?_
    exact G_iret rfl rfl (by rw [f_isBlock, if_pos h1]) rfl
  · skip
    refine G_st (L := 0) (k := 3) (11, [some (.long a), none, some (.long b), none], [.int (lg_cmp a 40)], M) (Nat.zero_le _) rfl ?_
    refine G_if_gt 27 rfl rfl (fun h2 => ?_) (fun h2 => ?_)
    · skip
      refine G_st (L := 0) (k := 1) (28, [some (.long a), none, some (.long b), none], [.int 0], M) (Nat.zero_le _) rfl ?_
      exact G_iret rfl rfl (by rw [f_isBlock, if_neg h1, if_pos h2]) rfl
    · skip
      refine G_st (L := 0) (k := 6) (20, [some (.long a), none, some (.long b), none], [.int (lg_cmp ((Int64.toUInt64 b >>> ((Int32.toInt64 (Int64.toInt32 a)).toUInt64 &&& Int64.toUInt64 63)).toInt64) 0)], M) (Nat.zero_le _) rfl ?_
      refine G_if_ne 27 rfl rfl (fun h3 => ?_) (fun h3 => ?_)
      · skip
        refine G_st (L := 0) (k := 1) (28, [some (.long a), none, some (.long b), none], [.int 0], M) (Nat.zero_le _) rfl ?_
        exact G_iret rfl rfl (by rw [f_isBlock, if_neg h1, if_neg h2, if_neg h3]) rfl
      · skip
        refine G_st (L := 0) (k := 2) (28, [some (.long a), none, some (.long b), none], [.int 1], M) (Nat.zero_le _) rfl ?_
        exact G_iret rfl rfl (by rw [f_isBlock, if_neg h1, if_neg h2, if_pos h3]) rfl
def f_isNumberLaw (v : Int32) : Int32 := if v < 0 then 0 else if 4 ≤ v then 0 else 1
theorem m_isNumberLaw {d : Nat} {M : qM} (v : Int32) : GM d 21 [.int v] (M) (some (.int (f_isNumberLaw v))) (M) := by
  refine GM_of (by decide) (Nat.le_refl _) (Nat.le_of_ble_eq_true rfl) (by unfold f_isNumberLaw; split <;> first | rfl | (split <;> first | rfl | (split <;> rfl))) ?_
  refine G_st (L := 0) (k := 0) (0, [some (.int v)], [], M) (Nat.zero_le _) rfl ?_
  refine G_st (L := 0) (k := 1) (1, [some (.int v)], [.int v], M) (Nat.zero_le _) rfl ?_
  refine G_if_lt 13 rfl rfl (fun h1 => ?_) (fun h1 => ?_)
  · skip
    refine G_st (L := 0) (k := 1) (14, [some (.int v)], [.int 0], M) (Nat.zero_le _) rfl ?_
    exact G_iret rfl rfl (by rw [f_isNumberLaw, if_pos h1]) rfl
  · skip
    refine G_st (L := 0) (k := 2) (6, [some (.int v)], [.int 4, .int v], M) (Nat.zero_le _) rfl ?_
    refine G_icmp_ge 13 rfl rfl (fun h2 => ?_) (fun h2 => ?_)
    · skip
      refine G_st (L := 0) (k := 1) (14, [some (.int v)], [.int 0], M) (Nat.zero_le _) rfl ?_
      exact G_iret rfl rfl (by rw [f_isNumberLaw, if_neg h1, if_pos h2]) rfl
    · skip
      refine G_st (L := 0) (k := 2) (14, [some (.int v)], [.int 1], M) (Nat.zero_le _) rfl ?_
      exact G_iret rfl rfl (by rw [f_isNumberLaw, if_neg h1, if_neg h2]) rfl
def f_isPoundage (v : Int32) : Int32 := if v < 0 then 0 else if 300 < v then 0 else 1
theorem m_isPoundage {d : Nat} {M : qM} (v : Int32) : GM d 24 [.int v] (M) (some (.int (f_isPoundage v))) (M) := by
  refine GM_of (by decide) (Nat.le_refl _) (Nat.le_of_ble_eq_true rfl) (by unfold f_isPoundage; split <;> first | rfl | (split <;> first | rfl | (split <;> rfl))) ?_
  refine G_st (L := 0) (k := 0) (0, [some (.int v)], [], M) (Nat.zero_le _) rfl ?_
  refine G_st (L := 0) (k := 1) (1, [some (.int v)], [.int v], M) (Nat.zero_le _) rfl ?_
  refine G_if_lt 15 rfl rfl (fun h1 => ?_) (fun h1 => ?_)
  · skip
    refine G_st (L := 0) (k := 1) (16, [some (.int v)], [.int 0], M) (Nat.zero_le _) rfl ?_
    exact G_iret rfl rfl (by rw [f_isPoundage, if_pos h1]) rfl
  · skip
    refine G_st (L := 0) (k := 2) (8, [some (.int v)], [.int 300, .int v], M) (Nat.zero_le _) rfl ?_
    refine G_icmp_gt 15 rfl rfl (fun h2 => ?_) (fun h2 => ?_)
    · skip
      refine G_st (L := 0) (k := 1) (16, [some (.int v)], [.int 0], M) (Nat.zero_le _) rfl ?_
      exact G_iret rfl rfl (by rw [f_isPoundage, if_neg h1, if_pos h2]) rfl
    · skip
      refine G_st (L := 0) (k := 2) (16, [some (.int v)], [.int 1], M) (Nat.zero_le _) rfl ?_
      exact G_iret rfl rfl (by rw [f_isPoundage, if_neg h1, if_neg h2]) rfl
def f_isLetter (v : Int32) : Int32 := if v < 97 then 0 else if 122 < v then 0 else 1
theorem m_isLetter {d : Nat} {M : qM} (v : Int32) : GM d 39 [.int v] (M) (some (.int (f_isLetter v))) (M) := by
  refine GM_of (by decide) (Nat.le_refl _) (Nat.le_of_ble_eq_true rfl) (by unfold f_isLetter; split <;> first | rfl | (split <;> first | rfl | (split <;> rfl))) ?_
  refine G_st (L := 0) (k := 0) (0, [some (.int v)], [], M) (Nat.zero_le _) rfl ?_
  refine G_st (L := 0) (k := 2) (3, [some (.int v)], [.int 97, .int v], M) (Nat.zero_le _) rfl ?_
  refine G_icmp_lt 16 rfl rfl (fun h1 => ?_) (fun h1 => ?_)
  · skip
    refine G_st (L := 0) (k := 1) (17, [some (.int v)], [.int 0], M) (Nat.zero_le _) rfl ?_
    exact G_iret rfl rfl (by rw [f_isLetter, if_pos h1]) rfl
  · skip
    refine G_st (L := 0) (k := 2) (9, [some (.int v)], [.int 122, .int v], M) (Nat.zero_le _) rfl ?_
    refine G_icmp_gt 16 rfl rfl (fun h2 => ?_) (fun h2 => ?_)
    · skip
      refine G_st (L := 0) (k := 1) (17, [some (.int v)], [.int 0], M) (Nat.zero_le _) rfl ?_
      exact G_iret rfl rfl (by rw [f_isLetter, if_neg h1, if_pos h2]) rfl
    · skip
      refine G_st (L := 0) (k := 2) (17, [some (.int v)], [.int 1], M) (Nat.zero_le _) rfl ?_
      exact G_iret rfl rfl (by rw [f_isLetter, if_neg h1, if_neg h2]) rfl
def f_isFigure (v : Int32) : Int32 := if v < 48 then 0 else if 57 < v then 0 else 1
theorem m_isFigure {d : Nat} {M : qM} (v : Int32) : GM d 40 [.int v] (M) (some (.int (f_isFigure v))) (M) := by
  refine GM_of (by decide) (Nat.le_refl _) (Nat.le_of_ble_eq_true rfl) (by unfold f_isFigure; split <;> first | rfl | (split <;> first | rfl | (split <;> rfl))) ?_
  refine G_st (L := 0) (k := 0) (0, [some (.int v)], [], M) (Nat.zero_le _) rfl ?_
  refine G_st (L := 0) (k := 2) (3, [some (.int v)], [.int 48, .int v], M) (Nat.zero_le _) rfl ?_
  refine G_icmp_lt 16 rfl rfl (fun h1 => ?_) (fun h1 => ?_)
  · skip
    refine G_st (L := 0) (k := 1) (17, [some (.int v)], [.int 0], M) (Nat.zero_le _) rfl ?_
    exact G_iret rfl rfl (by rw [f_isFigure, if_pos h1]) rfl
  · skip
    refine G_st (L := 0) (k := 2) (9, [some (.int v)], [.int 57, .int v], M) (Nat.zero_le _) rfl ?_
    refine G_icmp_gt 16 rfl rfl (fun h2 => ?_) (fun h2 => ?_)
    · skip
      refine G_st (L := 0) (k := 1) (17, [some (.int v)], [.int 0], M) (Nat.zero_le _) rfl ?_
      exact G_iret rfl rfl (by rw [f_isFigure, if_neg h1, if_pos h2]) rfl
    · skip
      refine G_st (L := 0) (k := 2) (17, [some (.int v)], [.int 1], M) (Nat.zero_le _) rfl ?_
      exact G_iret rfl rfl (by rw [f_isFigure, if_neg h1, if_neg h2]) rfl
def f_jcmp (a b : Int32) : Int32 := if b ≤ a then if a = b then 0 else 1 else (-1)
theorem m_jcmp {d : Nat} {M : qM} (a b : Int32) : GM d 145 [.int a, .int b] (M) (some (.int (f_jcmp a b))) (M) := by
  refine GM_of (by decide) (Nat.le_refl _) (Nat.le_of_ble_eq_true rfl) trivial ?_
  refine G_st (L := 0) (k := 0) (0, [some (.int a), some (.int b)], [], M) (Nat.zero_le _) rfl ?_
  refine G_st (L := 0) (k := 2) (2, [some (.int a), some (.int b)], [.int b, .int a], M) (Nat.zero_le _) rfl ?_
  refine G_icmp_ge 9 rfl rfl (fun h1 => ?_) (fun h1 => ?_)
  · skip
    refine G_st (L := 0) (k := 2) (11, [some (.int a), some (.int b)], [.int b, .int a], M) (Nat.zero_le _) rfl ?_
    refine G_icmp_ne 18 rfl rfl (fun h2 => ?_) (fun h2 => ?_)
    · skip
      refine G_st (L := 0) (k := 1) (19, [some (.int a), some (.int b)], [.int 1], M) (Nat.zero_le _) rfl ?_
      exact G_iret rfl rfl (by rw [f_jcmp, if_pos h1, if_neg h2]) rfl
    · skip
      refine G_st (L := 0) (k := 2) (19, [some (.int a), some (.int b)], [.int 0], M) (Nat.zero_le _) rfl ?_
      exact G_iret rfl rfl (by rw [f_jcmp, if_pos h1, if_pos h2]) rfl
  · skip
    refine G_st (L := 0) (k := 2) (19, [some (.int a), some (.int b)], [.int (-1)], M) (Nat.zero_le _) rfl ?_
    exact G_iret rfl rfl (by rw [f_jcmp, if_neg h1]) rfl
def f_jmax (a b : Int32) : Int32 := if a < b then b else a
theorem m_jmax {d : Nat} {M : qM} (a b : Int32) : GM d 147 [.int a, .int b] (M) (some (.int (f_jmax a b))) (M) := by
  refine GM_of (by decide) (Nat.le_refl _) (Nat.le_of_ble_eq_true rfl) trivial ?_
  refine G_st (L := 0) (k := 0) (0, [some (.int a), some (.int b)], [], M) (Nat.zero_le _) rfl ?_
  refine G_st (L := 0) (k := 2) (2, [some (.int a), some (.int b)], [.int b, .int a], M) (Nat.zero_le _) rfl ?_
  refine G_icmp_lt 9 rfl rfl (fun h1 => ?_) (fun h1 => ?_)
  · skip
    refine G_st (L := 0) (k := 1) (10, [some (.int a), some (.int b)], [.int b], M) (Nat.zero_le _) rfl ?_
    exact G_iret rfl rfl (by rw [f_jmax, if_pos h1]) rfl
  · skip
    refine G_st (L := 0) (k := 2) (10, [some (.int a), some (.int b)], [.int a], M) (Nat.zero_le _) rfl ?_
    exact G_iret rfl rfl (by rw [f_jmax, if_neg h1]) rfl
def f_in (v lo hi : Int64) : Int32 := if (lg_cmp v lo) < 0 then 0 else if 0 < (lg_cmp v hi) then 0 else 1
theorem m_in {d : Nat} {M : qM} (v lo hi : Int64) : GM d 99 [.long v, .long lo, .long hi] (M) (some (.int (f_in v lo hi))) (M) := by
  refine GM_of (by decide) (Nat.le_refl _) (Nat.le_of_ble_eq_true rfl) (by unfold f_in; split <;> first | rfl | (split <;> first | rfl | (split <;> rfl))) ?_
  refine G_st (L := 0) (k := 0) (0, [some (.long v), none, some (.long lo), none, some (.long hi), none], [], M) (Nat.zero_le _) rfl ?_
  refine G_st (L := 0) (k := 3) (3, [some (.long v), none, some (.long lo), none, some (.long hi), none], [.int (lg_cmp v lo)], M) (Nat.zero_le _) rfl ?_
  refine G_if_lt 17 rfl rfl (fun h1 => ?_) (fun h1 => ?_)
  · skip
    refine G_st (L := 0) (k := 1) (18, [some (.long v), none, some (.long lo), none, some (.long hi), none], [.int 0], M) (Nat.zero_le _) rfl ?_
    exact G_iret rfl rfl (by rw [f_in, if_pos h1]) rfl
  · skip
    refine G_st (L := 0) (k := 3) (10, [some (.long v), none, some (.long lo), none, some (.long hi), none], [.int (lg_cmp v hi)], M) (Nat.zero_le _) rfl ?_
    refine G_if_gt 17 rfl rfl (fun h2 => ?_) (fun h2 => ?_)
    · skip
      refine G_st (L := 0) (k := 1) (18, [some (.long v), none, some (.long lo), none, some (.long hi), none], [.int 0], M) (Nat.zero_le _) rfl ?_
      exact G_iret rfl rfl (by rw [f_in, if_neg h1, if_pos h2]) rfl
    · skip
      refine G_st (L := 0) (k := 2) (18, [some (.long v), none, some (.long lo), none, some (.long hi), none], [.int 1], M) (Nat.zero_le _) rfl ?_
      exact G_iret rfl rfl (by rw [f_in, if_neg h1, if_neg h2]) rfl
