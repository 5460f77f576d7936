/-! ===== what holds between the class's rows and the reference's ===== -/
def s_tp (I : Nat → Nat → Int32) : Prop := ∃ l, l ≤ 200 ∧ I 2 1 = nI l ∧ I 62 1 = nI l ∧ ∀ p, p < l → I 63 p = I 3 p &&& 255
def s_bk (sw : Bool) (I : Nat → Nat → Int32) : Prop := ∃ c, I 62 9 = nI c ∧ x_Dr (x_bk sw) I (I 64, c, I 65, I 66)
def s_wl (I : Nat → Nat → Int32) : Prop := ∀ w, w < 30 → I (w + 16) 0 = I 70 w ∧ I (w + 16) 1 = I 71 w ∧ I (w + 16) 2 = I 72 w ∧ I (w + 16) 3 = I 73 w
def s_gs (I : Nat → Nat → Int32) (k : Nat) : Prop := I (2 * k + 89) 1 = I 74 k ∧ I (2 * k + 89) 2 = I 75 k ∧ I (2 * k + 89) 3 = I 76 k ∧ I (2 * k + 89) 4 = I 77 k ∧ I (2 * k + 89) 5 = (if I 77 k = -4 then 0 else I 78 k) ∧ I (2 * k + 89) 6 = I 79 k ∧ I (2 * k + 89) 7 = I 80 k
def s_gm (I : Nat → Nat → Int32) (k : Nat) : Prop := (∃ m, 1 ≤ m ∧ m ≤ 6 ∧ I 74 k = nI m) ∧ (I 77 k = -4 ∨ ∃ w, w < 30 ∧ I 77 k = nI w)
def s_gk (I : Nat → Nat → Int32) (k : Nat) : Prop := ∀ w, w < 30 → I (2 * k + 90) w = I 81 (30 * k + w)
def s_gg (gc : Nat) (I : Nat → Nat → Int32) : Prop := gc ≤ 8 ∧ I 0 6 = nI gc ∧ I 62 20 = nI gc ∧ ∀ k, k < gc → s_gs I k ∧ s_gm I k ∧ s_gk I k
def s_un (gc : Nat) (I : Nat → Nat → Int32) : Prop := ∀ k, gc ≤ k → k < 8 → I 75 k = 0 ∧ I 76 k = 0 ∧ I 79 k = 0 ∧ I 80 k = 0 ∧ ∀ w, w < 30 → I 81 (30 * k + w) = -4
def s_ac (I : Nat → Nat → Int32) : Prop := I 0 7 = nI (q_cnt (r_askP I) 240 0)
def s_sc (I : Nat → Nat → Int32) : Prop := I 0 3 = I 62 6 ∧ I 0 8 = I 62 29 ∧ I 0 9 = I 62 30 ∧ I 0 11 = I 62 31 ∧ I 0 12 = I 62 36 ∧ I 0 13 = I 62 37
def s_sz (I : Nat → Nat → Int32) : Prop := ∃ n L P, x_Sz I n L ∧ r_Sz I n L P ∧ (∀ k, k < n → I 49 k = I 83 k) ∧ ∀ k, k < 8 → I 50 k = I 84 k
def s_sh (I : Nat → Nat → Int32) (J : Nat → Nat → Int64) : Prop := ∀ k, k < 4 → I (2 * k + 54) 2 = I 86 k ∧ I (2 * k + 54) 1 = I 87 k ∧ (∃ n, n ≤ 60 ∧ I 87 k = nI n) ∧ ∀ i, i < 60 → J (2 * k + 55) i = J 88 (60 * k + i)
def s_Rel (sw : Bool) (gc : Nat) (I : Nat → Nat → Int32) (J : Nat → Nat → Int64) : Prop := s_tp I ∧ s_bk sw I ∧ s_wl I ∧ s_gg gc I ∧ s_un gc I ∧ s_ac I ∧ s_sc I ∧ s_sz I ∧ s_sh I J
theorem s_tp_c {I I2 : Nat → Nat → Int32} (h : s_tp I) (e : ∀ i j, (i = 2 ∧ j = 1) ∨ i = 3 ∨ (i = 62 ∧ j = 1) ∨ i = 63 → I2 i j = I i j) : s_tp I2 := by
  obtain ⟨l, h1, h2, h3, h4⟩ := h
  refine ⟨l, h1, by rw [e _ _ (by omega)]; exact h2, by rw [e _ _ (by omega)]; exact h3, fun p hp => ?_⟩
  rw [e 63 p (by omega), e 3 p (by omega)]
  exact h4 p hp
theorem x_Dr_c {b : Nat} {I I2 : Nat → Nat → Int32} {D : t_D} (h : x_Dr b I D) (e : ∀ i j, b ≤ i ∧ i ≤ b + 4 → I2 i j = I i j) : x_Dr b I2 D := by
  refine ⟨fun k hk => ?_, ?_, h.2.2.1, fun j hj => ?_, ?_⟩
  · rw [e _ _ (by omega), e _ _ (by omega)]; exact h.1 k hk
  · rw [e _ _ (by omega)]; exact h.2.1
  · rw [e _ _ (by omega), e _ _ (by omega)]; exact h.2.2.2.1 j hj
  · rw [e _ _ (by omega)]; exact h.2.2.2.2
theorem x_Dr_d {b : Nat} {I : Nat → Nat → Int32} {f f2 : Nat → Int32} {c : Nat} {g g2 h h2 : Nat → Int32} (H : x_Dr b I (f, c, g, h)) (ef : ∀ k, k < 4 → f2 k = f k) (eg : ∀ j, j < c → g2 j = g j) (eh : ∀ j, j < c → h2 j = h j) : x_Dr b I (f2, c, g2, h2) := by
  refine ⟨fun k hk => ?_, H.2.1, H.2.2.1, fun j hj => ?_, ?_⟩
  · show (f2 k = -4 ∧ _) ∨ (¬ f2 k = -4 ∧ _ ∧ _ = f2 k)
    rw [ef k hk]; exact H.1 k hk
  · show _ = g2 j ∧ _ = h2 j
    rw [eg j hj, eh j hj]; exact H.2.2.2.1 j hj
  · have ec : ∀ k, k < 4 → t_ct f2 k = t_ct f k := by
      intro k hk
      unfold t_ct
      rw [ef k hk]
    have et : t_tot (f2, c, g2, h2) = t_tot (f, c, g, h) := by
      unfold t_tot
      show nI c + t_ct f2 0 + t_ct f2 1 + t_ct f2 2 + t_ct f2 3 = nI c + t_ct f 0 + t_ct f 1 + t_ct f 2 + t_ct f 3
      rw [ec 0 (by decide), ec 1 (by decide), ec 2 (by decide), ec 3 (by decide)]
    rw [et]
    exact H.2.2.2.2
theorem s_bk_c {sw : Bool} {I I2 : Nat → Nat → Int32} (h : s_bk sw I) (e : ∀ i j, (4 ≤ i ∧ i ≤ 13) ∨ (i = 62 ∧ j = 9) ∨ (64 ≤ i ∧ i ≤ 66) → I2 i j = I i j) : s_bk sw I2 := by
  obtain ⟨c, h1, h2⟩ := h
  refine ⟨c, by rw [e _ _ (by omega)]; exact h1, ?_⟩
  have hb : 4 ≤ x_bk sw ∧ x_bk sw + 4 ≤ 13 := by cases sw <;> decide
  refine x_Dr_c (x_Dr_d h2 (fun k hk => e 64 k (by omega)) (fun j hj => e 65 j (by omega)) (fun j hj => e 66 j (by omega))) (fun i j hi => e i j (by omega))
theorem s_wl_c {I I2 : Nat → Nat → Int32} (h : s_wl I) (e : ∀ i j, (16 ≤ i ∧ i ≤ 45) ∨ (70 ≤ i ∧ i ≤ 73) → I2 i j = I i j) : s_wl I2 := by
  intro w hw
  rw [e (w + 16) 0 (by omega), e (w + 16) 1 (by omega), e (w + 16) 2 (by omega), e (w + 16) 3 (by omega), e 70 w (by omega), e 71 w (by omega), e 72 w (by omega), e 73 w (by omega)]
  exact h w hw
theorem s_gs_c {I I2 : Nat → Nat → Int32} {k : Nat} (h : s_gs I k) (e : ∀ i j, i = 2 * k + 89 ∨ (74 ≤ i ∧ i ≤ 80 ∧ j = k) → I2 i j = I i j) : s_gs I2 k := by
  unfold s_gs
  rw [e _ 1 (Or.inl rfl), e _ 2 (Or.inl rfl), e _ 3 (Or.inl rfl), e _ 4 (Or.inl rfl), e _ 5 (Or.inl rfl), e _ 6 (Or.inl rfl), e _ 7 (Or.inl rfl), e 74 k (by omega), e 75 k (by omega), e 76 k (by omega), e 77 k (by omega), e 78 k (by omega), e 79 k (by omega), e 80 k (by omega)]
  exact h
theorem s_gm_c {I I2 : Nat → Nat → Int32} {k : Nat} (h : s_gm I k) (e : ∀ i, i = 74 ∨ i = 77 → I2 i k = I i k) : s_gm I2 k := by
  unfold s_gm
  rw [e 74 (by omega), e 77 (by omega)]
  exact h
theorem s_gk_c {I I2 : Nat → Nat → Int32} {k : Nat} (h : s_gk I k) (e : ∀ i w, w < 30 → (i = 2 * k + 90 → I2 i w = I i w) ∧ (i = 81 → I2 i (30 * k + w) = I i (30 * k + w))) : s_gk I2 k := by
  intro w hw
  rw [(e _ w hw).1 rfl, (e _ w hw).2 rfl]
  exact h w hw
theorem s_gg_c {gc : Nat} {I I2 : Nat → Nat → Int32} (h : s_gg gc I) (e : ∀ i j, (i = 0 ∧ j = 6) ∨ (i = 62 ∧ j = 20) ∨ 89 ≤ i ∨ (74 ≤ i ∧ i ≤ 81) → I2 i j = I i j) : s_gg gc I2 := by
  refine ⟨h.1, by rw [e _ _ (by omega)]; exact h.2.1, by rw [e _ _ (by omega)]; exact h.2.2.1, fun k hk => ?_⟩
  obtain ⟨h1, h2, h3⟩ := h.2.2.2 k hk
  exact ⟨s_gs_c h1 (fun i j hi => e i j (by omega)), s_gm_c h2 (fun i hi => e i k (by omega)), s_gk_c h3 (fun i w hw => ⟨fun hi => e i w (by omega), fun hi => e i _ (by omega)⟩)⟩
theorem s_un_c {gc : Nat} {I I2 : Nat → Nat → Int32} (h : s_un gc I) (e : ∀ i j, 75 ≤ i ∧ i ≤ 81 → I2 i j = I i j) : s_un gc I2 := by
  intro k h1 h2
  rw [e 75 k (by omega), e 76 k (by omega), e 79 k (by omega), e 80 k (by omega)]
  refine ⟨(h k h1 h2).1, (h k h1 h2).2.1, (h k h1 h2).2.2.1, (h k h1 h2).2.2.2.1, fun w hw => ?_⟩
  rw [e 81 _ (by omega)]
  exact (h k h1 h2).2.2.2.2 w hw
theorem q_cnt_c {p p2 : Nat → Bool} : ∀ (n i : Nat), (∀ j, i ≤ j → j < i + n → p2 j = p j) → q_cnt p2 n i = q_cnt p n i
  | 0, _, _ => rfl
  | n + 1, i, h => by
    unfold q_cnt
    rw [h i (Nat.le_refl _) (by omega), q_cnt_c n (i + 1) (fun j h1 h2 => h j (by omega) (by omega))]
theorem s_ac_c {I I2 : Nat → Nat → Int32} (h : s_ac I) (e : ∀ i j, (i = 0 ∧ j = 7) ∨ i = 81 → I2 i j = I i j) : s_ac I2 := by
  unfold s_ac
  rw [e 0 7 (by omega), q_cnt_c (p := r_askP I) 240 0 (fun j _ _ => by unfold r_askP; rw [e 81 j (by omega)])]
  exact h
theorem s_sc_c {I I2 : Nat → Nat → Int32} (h : s_sc I) (e : ∀ i j, (i = 0 ∧ (j = 3 ∨ j = 8 ∨ j = 9 ∨ j = 11 ∨ j = 12 ∨ j = 13)) ∨ (i = 62 ∧ (j = 6 ∨ j = 29 ∨ j = 30 ∨ j = 31 ∨ j = 36 ∨ j = 37)) → I2 i j = I i j) : s_sc I2 := by
  unfold s_sc
  rw [e 0 3 (by omega), e 0 8 (by omega), e 0 9 (by omega), e 0 11 (by omega), e 0 12 (by omega), e 0 13 (by omega), e 62 6 (by omega), e 62 29 (by omega), e 62 30 (by omega), e 62 31 (by omega), e 62 36 (by omega), e 62 37 (by omega)]
  exact h
theorem x_Sz_c {I I2 : Nat → Nat → Int32} {n : Nat} {L : Nat → Nat} (h : x_Sz I n L) (e : ∀ i j, (i = 47 ∧ j = 3) ∨ i = 48 → I2 i j = I i j) : x_Sz I2 n L := h.eqv (e _ _ (by omega)) (fun k => e _ _ (by omega))
theorem r_Sz_c {I I2 : Nat → Nat → Int32} {n : Nat} {L P : Nat → Nat} (h : r_Sz I n L P) (e : ∀ i j, (i = 62 ∧ j = 32) ∨ i = 82 ∨ i = 83 → I2 i j = I i j) : r_Sz I2 n L P := by
  refine ⟨by rw [e _ _ (by omega)]; exact h.1, h.2.1, fun k hk => ?_⟩
  rw [e 82 k (by omega), e 83 k (by omega)]
  exact h.2.2 k hk
theorem s_sz_c {I I2 : Nat → Nat → Int32} (h : s_sz I) (e : ∀ i j, (i = 47 ∧ j = 3) ∨ (48 ≤ i ∧ i ≤ 50) ∨ (i = 62 ∧ j = 32) ∨ (82 ≤ i ∧ i ≤ 84) → I2 i j = I i j) : s_sz I2 := by
  obtain ⟨n, L, P, h1, h2, h3, h4⟩ := h
  refine ⟨n, L, P, x_Sz_c h1 (fun i j hi => e i j (by omega)), r_Sz_c h2 (fun i j hi => e i j (by omega)), fun k hk => ?_, fun k hk => ?_⟩
  · rw [e 49 k (by omega), e 83 k (by omega)]; exact h3 k hk
  · rw [e 50 k (by omega), e 84 k (by omega)]; exact h4 k hk
theorem s_sh_c {I I2 : Nat → Nat → Int32} {J J2 : Nat → Nat → Int64} (h : s_sh I J) (e : ∀ i j, (54 ≤ i ∧ i ≤ 61) ∨ i = 86 ∨ i = 87 → I2 i j = I i j) (eJ : ∀ i j, (55 ≤ i ∧ i ≤ 61) ∨ i = 88 → J2 i j = J i j) : s_sh I2 J2 := by
  intro k hk
  rw [e (2 * k + 54) 2 (by omega), e (2 * k + 54) 1 (by omega), e 86 k (by omega), e 87 k (by omega)]
  refine ⟨(h k hk).1, (h k hk).2.1, (h k hk).2.2.1, fun i hi => ?_⟩
  rw [eJ _ _ (by omega), eJ _ _ (by omega)]
  exact (h k hk).2.2.2 i hi
/-- places that the relation does not speak of -/
def s_scr (i j : Nat) : Prop := i = 1 ∨ (i = 47 ∧ ¬ j = 3) ∨ i = 51 ∨ i = 52 ∨ (i = 62 ∧ (2 ≤ j ∧ j ≤ 5 ∨ j = 7 ∨ j = 13)) ∨ (67 ≤ i ∧ i ≤ 69) ∨ i = 85
theorem s_Rel_c {sw : Bool} {gc : Nat} {I I2 : Nat → Nat → Int32} {J J2 : Nat → Nat → Int64} (h : s_Rel sw gc I J) (e : ∀ i j, ¬ s_scr i j → I2 i j = I i j) (eJ : ∀ i j, (55 ≤ i ∧ i ≤ 61) ∨ i = 88 → J2 i j = J i j) : s_Rel sw gc I2 J2 := by
  obtain ⟨a, b, c, d, u, f, g, z, s⟩ := h
  have e2 : ∀ i j, ¬ (i = 1 ∨ (i = 47 ∧ ¬ j = 3) ∨ i = 51 ∨ i = 52 ∨ (i = 62 ∧ (2 ≤ j ∧ j ≤ 5 ∨ j = 7 ∨ j = 13)) ∨ (67 ≤ i ∧ i ≤ 69) ∨ i = 85) → I2 i j = I i j := e
  exact ⟨s_tp_c a (fun i j hi => e2 i j (by omega)), s_bk_c b (fun i j hi => e2 i j (by omega)), s_wl_c c (fun i j hi => e2 i j (by omega)), s_gg_c d (fun i j hi => e2 i j (by omega)), s_un_c u (fun i j hi => e2 i j (by omega)), s_ac_c f (fun i j hi => e2 i j (by omega)), s_sc_c g (fun i j hi => e2 i j (by omega)), s_sz_c z (fun i j hi => e2 i j (by omega)), s_sh_c s (fun i j hi => e2 i j (by omega)) eJ⟩
/-- one call of the law, on both sides -/
def s_Stp (y y2 : Nat) (av : List Value) : Prop := ∀ (d : Nat) (sw : Bool) (gc : Nat) (I : Nat → Nat → Int32) (J : Nat → Nat → Int64), s_Rel sw gc I J → ∃ (r : Int32) (sw2 : Bool) (gc2 : Nat) (I1 : Nat → Nat → Int32) (J1 : Nat → Nat → Int64) (I2 : Nat → Nat → Int32) (J2 : Nat → Nat → Int64), gc ≤ gc2 ∧ GM (d + 12) y (.ref 0 :: av) (qS sw gc I J) (some (.int r)) (qS sw2 gc2 I1 J1) ∧ GM (d + 12) y2 (.ref 62 :: av) (qS sw2 gc2 I1 J1) (some (.int r)) (qS sw2 gc2 I2 J2) ∧ s_Rel sw2 gc2 I2 J2
theorem s_keep {d y y2 : Nat} {av : List Value} {sw : Bool} {gc : Nat} {I : Nat → Nat → Int32} {J : Nat → Nat → Int64} {r : Int32} (h : s_Rel sw gc I J) (g : GM (d + 12) y (.ref 0 :: av) (qS sw gc I J) (some (.int r)) (qS sw gc I J)) (g2 : GM (d + 12) y2 (.ref 62 :: av) (qS sw gc I J) (some (.int r)) (qS sw gc I J)) : ∃ (r : Int32) (sw2 : Bool) (gc2 : Nat) (I1 : Nat → Nat → Int32) (J1 : Nat → Nat → Int64) (I2 : Nat → Nat → Int32) (J2 : Nat → Nat → Int64), gc ≤ gc2 ∧ GM (d + 12) y (.ref 0 :: av) (qS sw gc I J) (some (.int r)) (qS sw2 gc2 I1 J1) ∧ GM (d + 12) y2 (.ref 62 :: av) (qS sw2 gc2 I1 J1) (some (.int r)) (qS sw2 gc2 I2 J2) ∧ s_Rel sw2 gc2 I2 J2 := ⟨r, sw, gc, I, J, I, J, Nat.le_refl _, g, g2, h⟩
