def f_isGoodness (v : Int32) : Int32 := if v < 0 then 0 else if 9 < v then 0 else 1
theorem m_isGoodness {d : Nat} {M : qM} (v : Int32) : GM d 1 [.int v] (M) (some (.int (f_isGoodness v))) (M) := by
  refine GM_of (by decide) (Nat.le_refl _) (by decide) (by unfold f_isGoodness; split <;> first | rfl | (split <;> rfl)) ?_
  refine G_st (L := 0) (k := 0) (0, [some (.int v)], [], M) (Nat.zero_le _) rfl ?_
  refine G_st (L := 0) (k := 1) (1, [some (.int v)], [.int v], M) (Nat.zero_le _) rfl ?_
  refine G_if_lt 14 rfl rfl (fun h1 => ?_) (fun h1 => ?_)
  · skip
    refine G_st (L := 0) (k := 1) (15, [some (.int v)], [.int 0], M) (Nat.zero_le _) rfl ?_
    exact G_iret rfl rfl (by rw [f_isGoodness, if_pos h1]) rfl
  · skip
    refine G_st (L := 0) (k := 2) (7, [some (.int v)], [.int 9, .int v], M) (Nat.zero_le _) rfl ?_
    refine G_icmp_gt 14 rfl rfl (fun h2 => ?_) (fun h2 => ?_)
    · skip
      refine G_st (L := 0) (k := 1) (15, [some (.int v)], [.int 0], M) (Nat.zero_le _) rfl ?_
      exact G_iret rfl rfl (by rw [f_isGoodness, if_neg h1, if_pos h2]) rfl
    · skip
      refine G_st (L := 0) (k := 2) (15, [some (.int v)], [.int 1], M) (Nat.zero_le _) rfl ?_
      exact G_iret rfl rfl (by rw [f_isGoodness, if_neg h1, if_neg h2]) rfl
def f_indexOf (g c : Int32) : Int32 := if g < 0 then (-4) else if 5 ≤ g then (-4) else if c < 0 then (-4) else if c < 6 then (6 * g) + c else (-4)
theorem m_indexOf {d : Nat} {M : qM} (g c : Int32) : GM d 2 [.int g, .int c] (M) (some (.int (f_indexOf g c))) (M) := by
  refine GM_of (by decide) (Nat.le_refl _) (by decide) trivial ?_
  refine G_st (L := 0) (k := 0) (0, [some (.int g), some (.int c)], [], M) (Nat.zero_le _) rfl ?_
  refine G_st (L := 0) (k := 1) (1, [some (.int g), some (.int c)], [.int g], M) (Nat.zero_le _) rfl ?_
  refine G_if_lt 19 rfl rfl (fun h1 => ?_) (fun h1 => ?_)
  · skip
    refine G_st (L := 0) (k := 1) (21, [some (.int g), some (.int c)], [.int (-4)], M) (Nat.zero_le _) rfl ?_
    exact G_iret rfl rfl (by rw [f_indexOf, if_pos h1]) rfl
  · skip
    refine G_st (L := 0) (k := 2) (6, [some (.int g), some (.int c)], [.int 5, .int g], M) (Nat.zero_le _) rfl ?_
    refine G_icmp_ge 19 rfl rfl (fun h2 => ?_) (fun h2 => ?_)
    · skip
      refine G_st (L := 0) (k := 1) (21, [some (.int g), some (.int c)], [.int (-4)], M) (Nat.zero_le _) rfl ?_
      exact G_iret rfl rfl (by rw [f_indexOf, if_neg h1, if_pos h2]) rfl
    · skip
      refine G_st (L := 0) (k := 1) (10, [some (.int g), some (.int c)], [.int c], M) (Nat.zero_le _) rfl ?_
      refine G_if_lt 19 rfl rfl (fun h3 => ?_) (fun h3 => ?_)
      · skip
        refine G_st (L := 0) (k := 1) (21, [some (.int g), some (.int c)], [.int (-4)], M) (Nat.zero_le _) rfl ?_
        exact G_iret rfl rfl (by rw [f_indexOf, if_neg h1, if_neg h2, if_pos h3]) rfl
      · skip
        refine G_st (L := 0) (k := 2) (16, [some (.int g), some (.int c)], [.int 6, .int c], M) (Nat.zero_le _) rfl ?_
        refine G_icmp_lt 22 rfl rfl (fun h4 => ?_) (fun h4 => ?_)
        · skip
          refine G_st (L := 0) (k := 5) (28, [some (.int g), some (.int c)], [.int ((6 * g) + c)], M) (Nat.zero_le _) rfl ?_
          exact G_iret rfl rfl (by rw [f_indexOf, if_neg h1, if_neg h2, if_neg h3, if_pos h4]) rfl
        · skip
          refine G_st (L := 0) (k := 1) (21, [some (.int g), some (.int c)], [.int (-4)], M) (Nat.zero_le _) rfl ?_
          exact G_iret rfl rfl (by rw [f_indexOf, if_neg h1, if_neg h2, if_neg h3, if_neg h4]) rfl
def f_m_in (v lo hi : Int64) : Int32 := if (lg_cmp v lo) < 0 then 0 else if 0 < (lg_cmp v hi) then 0 else 1
theorem m_m_in {d : Nat} {M : qM} (v lo hi : Int64) : GM d 99 [.long v, .long lo, .long hi] (M) (some (.int (f_m_in v lo hi))) (M) := by
  refine GM_of (by decide) (Nat.le_refl _) (by decide) (by unfold f_m_in; split <;> first | rfl | (split <;> rfl)) ?_
  refine G_st (L := 0) (k := 0) (0, [some (.long v), none, some (.long lo), none, some (.long hi), none], [], M) (Nat.zero_le _) rfl ?_
  refine G_st (L := 0) (k := 3) (3, [some (.long v), none, some (.long lo), none, some (.long hi), none], [.int (lg_cmp v lo)], M) (Nat.zero_le _) rfl ?_
  refine G_if_lt 17 rfl rfl (fun h1 => ?_) (fun h1 => ?_)
  · skip
    refine G_st (L := 0) (k := 1) (18, [some (.long v), none, some (.long lo), none, some (.long hi), none], [.int 0], M) (Nat.zero_le _) rfl ?_
    exact G_iret rfl rfl (by rw [f_m_in, if_pos h1]) rfl
  · skip
    refine G_st (L := 0) (k := 3) (10, [some (.long v), none, some (.long lo), none, some (.long hi), none], [.int (lg_cmp v hi)], M) (Nat.zero_le _) rfl ?_
    refine G_if_gt 17 rfl rfl (fun h2 => ?_) (fun h2 => ?_)
    · skip
      refine G_st (L := 0) (k := 1) (18, [some (.long v), none, some (.long lo), none, some (.long hi), none], [.int 0], M) (Nat.zero_le _) rfl ?_
      exact G_iret rfl rfl (by rw [f_m_in, if_neg h1, if_pos h2]) rfl
    · skip
      refine G_st (L := 0) (k := 2) (18, [some (.long v), none, some (.long lo), none, some (.long hi), none], [.int 1], M) (Nat.zero_le _) rfl ?_
      exact G_iret rfl rfl (by rw [f_m_in, if_neg h1, if_neg h2]) rfl
theorem q_vin {x : Int32} {n : Nat} (h0 : 0 ≤ x.toInt) (h1 : x.toInt < n) : vp_in x n := vp_in_iff.mpr ⟨h0, h1⟩
