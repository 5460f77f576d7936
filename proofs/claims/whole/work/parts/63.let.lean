/-! ===== month ===== -/
theorem x_em_un {I : Nat → Nat → Int32} {k i j : Nat} (h : ¬ (i = 2 * k + 89 ∧ (j = 4 ∨ j = 5 ∨ j = 7)) ∧ ¬ (i = 2 * k + 90 ∧ j < 30)) : x_em I k i j = I i j := by
  unfold x_em
  rw [q_un _ _ (by omega), q_un _ _ (by omega), q_un _ _ (by omega)]
  unfold q_fil
  rw [if_neg (by omega)]
theorem x_em_at {I : Nat → Nat → Int32} {k : Nat} : x_em I k (2 * k + 89) 4 = -4 ∧ x_em I k (2 * k + 89) 5 = 0 ∧ x_em I k (2 * k + 89) 7 = 0 ∧ ∀ w, w < 30 → x_em I k (2 * k + 90) w = -4 := by
  unfold x_em
  refine ⟨?_, ?_, ?_, fun w hw => ?_⟩
  · rw [q_un _ _ (by omega), q_un _ _ (by omega), q_us]
  · rw [q_un _ _ (by omega), q_us]
  · rw [q_us]
  · rw [q_un _ _ (by omega), q_un _ _ (by omega), q_un _ _ (by omega)]
    unfold q_fil
    rw [if_pos (by omega)]
theorem x_ems_un : ∀ (n i : Nat) (I : Nat → Nat → Int32) (a b : Nat), (∀ k, i ≤ k → k < i + n → ¬ (a = 2 * k + 89 ∧ (b = 4 ∨ b = 5 ∨ b = 7)) ∧ ¬ (a = 2 * k + 90 ∧ b < 30)) → x_ems n i I a b = I a b
  | 0, _, _, _, _, _ => rfl
  | n + 1, i, I, a, b, h => by
    unfold x_ems
    rw [x_ems_un n (i + 1) _ a b (fun k h1 h2 => h k (by omega) (by omega)), x_em_un (h i (Nat.le_refl _) (by omega))]
theorem x_ems_at : ∀ (n i : Nat) (I : Nat → Nat → Int32) (k : Nat), i ≤ k → k < i + n → x_ems n i I (2 * k + 89) 4 = -4 ∧ x_ems n i I (2 * k + 89) 5 = 0 ∧ x_ems n i I (2 * k + 89) 7 = 0 ∧ ∀ w, w < 30 → x_ems n i I (2 * k + 90) w = -4
  | 0, i, _, k, h1, h2 => absurd h2 (by omega)
  | n + 1, i, I, k, h1, h2 => by
    unfold x_ems
    by_cases e : k = i
    · subst e
      obtain ⟨a1, a2, a3, a4⟩ := x_em_at (I := I) (k := k)
      refine ⟨?_, ?_, ?_, fun w hw => ?_⟩
      · rw [x_ems_un n (k + 1) _ _ _ (fun j b1 b2 => by omega)]; exact a1
      · rw [x_ems_un n (k + 1) _ _ _ (fun j b1 b2 => by omega)]; exact a2
      · rw [x_ems_un n (k + 1) _ _ _ (fun j b1 b2 => by omega)]; exact a3
      · rw [x_ems_un n (k + 1) _ _ _ (fun j b1 b2 => by omega)]; exact a4 w hw
    · exact x_ems_at n (i + 1) _ k (by omega) (by omega)
theorem r_mon_un {I : Nat → Nat → Int32} {i j : Nat} (h : ¬ (i = 62 ∧ (j = 29 ∨ j = 30)) ∧ ¬ (i = 73 ∧ j < 30) ∧ ¬ (i = 77 ∧ j < 8) ∧ ¬ (i = 80 ∧ j < 8) ∧ ¬ (i = 81 ∧ j < 240)) : r_mon I i j = I i j := by
  unfold r_mon r_moE
  rw [q_un _ _ (by omega)]
  unfold q_fil
  rw [if_neg (by omega), if_neg (by omega), if_neg (by omega), if_neg (by omega), q_un _ _ (by omega)]
theorem r_mon_at {I : Nat → Nat → Int32} : r_mon I 62 29 = 0 ∧ r_mon I 62 30 = I 62 30 + 1 ∧ (∀ w, w < 30 → r_mon I 73 w = -4) ∧ (∀ k, k < 8 → r_mon I 77 k = -4 ∧ r_mon I 80 k = 0) ∧ ∀ j, j < 240 → r_mon I 81 j = -4 := by
  unfold r_mon r_moE
  refine ⟨?_, ?_, fun w hw => ?_, fun k hk => ⟨?_, ?_⟩, fun j hj => ?_⟩
  · rw [q_un _ _ (by omega)]
    unfold q_fil
    rw [if_neg (by omega), if_neg (by omega), if_neg (by omega), if_neg (by omega), q_us]
  · rw [q_us]
    unfold q_fil
    rw [if_neg (by omega), if_neg (by omega), if_neg (by omega), if_neg (by omega), q_un _ _ (by omega)]
  · rw [q_un _ _ (by omega)]
    unfold q_fil
    rw [if_neg (by omega), if_neg (by omega), if_neg (by omega), if_pos (by omega)]
  · rw [q_un _ _ (by omega)]
    unfold q_fil
    rw [if_neg (by omega), if_neg (by omega), if_pos (by omega)]
  · rw [q_un _ _ (by omega)]
    unfold q_fil
    rw [if_neg (by omega), if_pos (by omega)]
  · rw [q_un _ _ (by omega)]
    unfold q_fil
    rw [if_pos (by omega)]
theorem q_cnt_z {p : Nat → Bool} : ∀ (n i : Nat), (∀ j, i ≤ j → j < i + n → p j = false) → q_cnt p n i = 0
  | 0, _, _ => rfl
  | n + 1, i, h => by
    unfold q_cnt
    rw [h i (Nat.le_refl _) (by omega), q_cnt_z n (i + 1) (fun j h1 h2 => h j (by omega) (by omega))]
    rfl
theorem x_mo2_un {I : Nat → Nat → Int32} {i j : Nat} (h : ¬ (i = 0 ∧ (j = 7 ∨ j = 8 ∨ j = 9)) ∧ ¬ (16 ≤ i ∧ i < 46 ∧ j = 3)) : x_mo2 I i j = I i j := by
  unfold x_mo2
  rw [q_un _ _ (by omega), q_un _ _ (by omega), q_un _ _ (by omega)]
  unfold x_free
  rw [if_neg (by omega)]
theorem x_mo2_at {I : Nat → Nat → Int32} : x_mo2 I 0 7 = 0 ∧ x_mo2 I 0 8 = 0 ∧ x_mo2 I 0 9 = I 0 9 + 1 ∧ ∀ w, w < 30 → x_mo2 I (w + 16) 3 = -4 := by
  unfold x_mo2
  refine ⟨?_, ?_, ?_, fun w hw => ?_⟩
  · rw [q_un _ _ (by omega), q_un _ _ (by omega), q_us]
  · rw [q_un _ _ (by omega), q_us]
  · rw [q_us]
  · rw [q_un _ _ (by omega), q_un _ _ (by omega), q_un _ _ (by omega)]
    unfold x_free
    rw [if_pos (by omega)]
theorem s_month : s_Stp 81 128 [] := by
  intro d sw gc I J h
  have sc := h.2.2.2.2.2.2.1
  obtain ⟨hg, hgc, hmg, hgk⟩ := h.2.2.2.1
  by_cases hl : I 0 8 = 0
  · exact s_keep h (x_monthS (d := d + 10) hl) (r_monthS (d := d + 12) (sc.2.1 ▸ hl))
  · obtain ⟨tp, bk, wl, gg, un, ac, sc, sz, sh⟩ := h
    have E : ∀ a b, (a < 89 → x_ems gc 0 I a b = I a b) ∧ ((∀ k, k < gc → ¬ (a = 2 * k + 89 ∧ (b = 4 ∨ b = 5 ∨ b = 7)) ∧ ¬ (a = 2 * k + 90 ∧ b < 30)) → x_ems gc 0 I a b = I a b) := fun a b => ⟨fun ha => x_ems_un gc 0 I a b (fun k _ _ => by omega), fun ha => x_ems_un gc 0 I a b (fun k _ hk => ha k (by omega))⟩
    obtain ⟨m1, m2, m3, m4⟩ := x_mo2_at (I := x_ems gc 0 I)
    obtain ⟨r1, r2, r3, r4, r5⟩ := r_mon_at (I := x_mo2 (x_ems gc 0 I))
    have hu : ∀ i j, i < 89 → ¬ (i = 0 ∧ (j = 7 ∨ j = 8 ∨ j = 9)) → ¬ (16 ≤ i ∧ i < 46 ∧ j = 3) → ¬ (i = 62 ∧ (j = 29 ∨ j = 30)) → ¬ (i = 73 ∧ j < 30) → ¬ (i = 77 ∧ j < 8) → ¬ (i = 80 ∧ j < 8) → ¬ (i = 81 ∧ j < 240) → r_mon (x_mo2 (x_ems gc 0 I)) i j = I i j := by
      intro i j a0 a1 a2 a3 a4 a5 a6 a7
      rw [r_mon_un (by omega), x_mo2_un (by omega), (E i j).1 a0]
    have e29 : x_mo2 (x_ems gc 0 I) 62 29 = I 62 29 := by rw [x_mo2_un (by omega), (E 62 29).1 (by omega)]
    have e30 : x_mo2 (x_ems gc 0 I) 62 30 = I 62 30 := by rw [x_mo2_un (by omega), (E 62 30).1 (by omega)]
    have R := r_month (d := d + 12) (sw := sw) (gc := gc) (J := J) (I := x_mo2 (x_ems gc 0 I)) (by rw [e29, ← sc.2.1]; exact hl)
    rw [e30, ← sc.2.2.1] at R
    refine ⟨_, sw, gc, _, J, _, J, Nat.le_refl _, x_month (d := d + 10) hgc hg hl, R, s_tp_c tp (fun i j hi => hu i j (by omega) (by omega) (by omega) (by omega) (by omega) (by omega) (by omega) (by omega)), s_bk_c bk (fun i j hi => hu i j (by omega) (by omega) (by omega) (by omega) (by omega) (by omega) (by omega) (by omega)), ?_, ⟨hg, ?_, ?_, fun k hk => ?_⟩, ?_, ?_, ?_, s_sz_c sz (fun i j hi => hu i j (by omega) (by omega) (by omega) (by omega) (by omega) (by omega) (by omega) (by omega)), s_sh_c sh (fun i j hi => hu i j (by omega) (by omega) (by omega) (by omega) (by omega) (by omega) (by omega) (by omega)) (fun _ _ _ => rfl)⟩
    · intro w hw
      rw [hu (w + 16) 0 (by omega) (by omega) (by omega) (by omega) (by omega) (by omega) (by omega) (by omega), hu (w + 16) 1 (by omega) (by omega) (by omega) (by omega) (by omega) (by omega) (by omega) (by omega), hu (w + 16) 2 (by omega) (by omega) (by omega) (by omega) (by omega) (by omega) (by omega) (by omega), hu 70 w (by omega) (by omega) (by omega) (by omega) (by omega) (by omega) (by omega) (by omega), hu 71 w (by omega) (by omega) (by omega) (by omega) (by omega) (by omega) (by omega) (by omega), hu 72 w (by omega) (by omega) (by omega) (by omega) (by omega) (by omega) (by omega) (by omega), r3 w hw, r_mon_un (by omega), m4 w hw]
      exact ⟨(wl w hw).1, (wl w hw).2.1, (wl w hw).2.2.1, rfl⟩
    · rw [hu 0 6 (by omega) (by omega) (by omega) (by omega) (by omega) (by omega) (by omega) (by omega)]; exact hgc
    · rw [hu 62 20 (by omega) (by omega) (by omega) (by omega) (by omega) (by omega) (by omega) (by omega)]; exact hmg
    · obtain ⟨gs, gm, gk⟩ := hgk k hk
      obtain ⟨c1, c2, c3, c4⟩ := x_ems_at gc 0 I k (Nat.zero_le _) (by omega)
      have f : ∀ j, r_mon (x_mo2 (x_ems gc 0 I)) (2 * k + 89) j = x_ems gc 0 I (2 * k + 89) j := fun j => by rw [r_mon_un (by omega), x_mo2_un (by omega)]
      have f2 : ∀ j, ¬ (j = 4 ∨ j = 5 ∨ j = 7) → r_mon (x_mo2 (x_ems gc 0 I)) (2 * k + 89) j = I (2 * k + 89) j := fun j hj => by rw [f, (E _ _).2 (fun k2 _ => by omega)]
      have r4k := r4 k (by omega)
      refine ⟨?_, ⟨?_, Or.inl r4k.1⟩, fun w hw => ?_⟩
      · unfold s_gs
        rw [f2 1 (by omega), f2 2 (by omega), f2 3 (by omega), f 4, f 5, f2 6 (by omega), f 7, c1, c2, c3, r4k.1, r4k.2, hu 74 k (by omega) (by omega) (by omega) (by omega) (by omega) (by omega) (by omega) (by omega), hu 75 k (by omega) (by omega) (by omega) (by omega) (by omega) (by omega) (by omega) (by omega), hu 76 k (by omega) (by omega) (by omega) (by omega) (by omega) (by omega) (by omega) (by omega), hu 79 k (by omega) (by omega) (by omega) (by omega) (by omega) (by omega) (by omega) (by omega), if_pos rfl]
        exact ⟨gs.1, gs.2.1, gs.2.2.1, rfl, rfl, gs.2.2.2.2.2.1, rfl⟩
      · rw [hu 74 k (by omega) (by omega) (by omega) (by omega) (by omega) (by omega) (by omega) (by omega)]; exact gm.1
      · rw [r_mon_un (by omega), x_mo2_un (by omega), c4 w hw, r5 _ (by omega)]
    · intro k k1 k2
      obtain ⟨u1, u2, u3, u4, u5⟩ := un k k1 k2
      rw [hu 75 k (by omega) (by omega) (by omega) (by omega) (by omega) (by omega) (by omega) (by omega), hu 76 k (by omega) (by omega) (by omega) (by omega) (by omega) (by omega) (by omega) (by omega), hu 79 k (by omega) (by omega) (by omega) (by omega) (by omega) (by omega) (by omega) (by omega)]
      exact ⟨u1, u2, u3, (r4 k k2).2, fun w hw => r5 _ (by omega)⟩
    · unfold s_ac
      rw [r_mon_un (by omega), m1, q_cnt_z 240 0 (fun j _ hj => by unfold r_askP; rw [r5 j (by omega)]; rfl)]
      rfl
    · unfold s_sc
      rw [hu 0 3 (by omega) (by omega) (by omega) (by omega) (by omega) (by omega) (by omega) (by omega), hu 0 11 (by omega) (by omega) (by omega) (by omega) (by omega) (by omega) (by omega) (by omega), hu 0 12 (by omega) (by omega) (by omega) (by omega) (by omega) (by omega) (by omega) (by omega), hu 0 13 (by omega) (by omega) (by omega) (by omega) (by omega) (by omega) (by omega) (by omega), hu 62 6 (by omega) (by omega) (by omega) (by omega) (by omega) (by omega) (by omega) (by omega), hu 62 31 (by omega) (by omega) (by omega) (by omega) (by omega) (by omega) (by omega) (by omega), hu 62 36 (by omega) (by omega) (by omega) (by omega) (by omega) (by omega) (by omega) (by omega), hu 62 37 (by omega) (by omega) (by omega) (by omega) (by omega) (by omega) (by omega) (by omega), r1, r2, e30, r_mon_un (i := 0) (j := 8) (by omega), r_mon_un (i := 0) (j := 9) (by omega), m2, m3, (E 0 9).1 (by omega)]
      exact ⟨sc.1, rfl, by rw [sc.2.2.1], sc.2.2.2.1, sc.2.2.2.2.1, sc.2.2.2.2.2⟩
/-! ===== let ===== -/
def s_L (sw : Bool) (gc : Nat) (A B : Nat → Nat → Int32) : Prop :=
  (∀ w, w < 30 → A (w + 16) 2 = B 72 w ∧ A (w + 16) 3 = B 73 w) ∧
  (∀ k, k < gc → A (2 * k + 89) 3 = B 76 k ∧ A (2 * k + 89) 4 = B 77 k ∧ A (2 * k + 89) 5 = (if B 77 k = -4 then 0 else B 78 k) ∧ (B 77 k = -4 ∨ ∃ w, w < 30 ∧ B 77 k = nI w) ∧ ∀ w, w < 30 → A (2 * k + 90) w = B 81 (30 * k + w)) ∧
  x_num sw A 0 = B 64 0
theorem s_mayN2 {A B : Nat → Nat → Int32} (h : ∀ w, w < 30 → A (w + 16) 2 = B 72 w) : ∀ (n w : Nat), x_mayN A n w = r_mayN B n w
  | 0, _ => rfl
  | n + 1, w => by
    unfold x_mayN r_mayN
    rw [s_mayN2 h n (w + 6)]
    by_cases hw : w < 30
    · rw [show x_lo A w = r_ls B w by unfold x_lo r_ls; rw [h w hw]]
    · rw [Nat.ble_eq_true_of_le (show 30 ≤ w by omega)]; rfl
theorem s_las {sw : Bool} {A : Nat → Nat → Int32} {t p : Int32} (h : x_num sw A 0 = t) : x_las sw A p = (decide (t = -4) || !decide (t < p)) := by
  subst h
  cases sw with
  | false => rfl
  | true => rfl
theorem s_mt {sw : Bool} {gc : Nat} {A B : Nat → Nat → Int32} (h : s_L sw gc A B) {w k : Nat} (hw : w < 30) (hk : k < gc) : x_mt sw A w k = r_mt B w k := by
  obtain ⟨h1, h2, h3, h4, h5⟩ := h.2.1 k hk
  unfold x_mt r_mt x_hw
  rw [h2, h5 w hw, s_las h.2.2]
  cases decide (B 77 k = -4) <;> cases decide (B 81 (30 * k + w) = -4) <;> rfl
theorem s_bt {sw : Bool} {gc : Nat} {A B : Nat → Nat → Int32} (h : s_L sw gc A B) {w k j : Nat} (hw : w < 30) (hk : k < gc) (hj : j < gc) : x_bt A w k j = r_bt B w k j := by
  obtain ⟨h1, h2, h3, h4, h5⟩ := h.2.1 k hk
  obtain ⟨j1, j2, j3, j4, j5⟩ := h.2.1 j hj
  unfold x_bt r_bt
  rw [h5 w hw, j5 w hw, h1, j1]
  have e : decide (B 76 k < B 76 j) = !decide (B 76 j ≤ B 76 k) := by
    by_cases h6 : B 76 k < B 76 j
    · rw [decide_eq_true h6, decide_eq_false (Int32.not_le.mpr h6)]; rfl
    · rw [decide_eq_false h6, decide_eq_true (Int32.not_lt.mp h6)]; rfl
  rw [e]
theorem q_bs_c {gc : Nat} {ok ok2 : Nat → Bool} {bt bt2 : Nat → Nat → Bool} (h1 : ∀ k, k < gc → ok k = ok2 k) (h2 : ∀ k j, k < gc → j < gc → bt k j = bt2 k j) : ∀ (n i : Nat) (b : Option Nat), i + n = gc → x_okO gc b → q_bs ok bt n i b = q_bs ok2 bt2 n i b
  | 0, _, _, _, _ => rfl
  | n + 1, i, b, hi, hb => by
    unfold q_bs
    have e : (ok i && q_bto (bt i) b) = (ok2 i && q_bto (bt2 i) b) := by
      rw [h1 i (by omega)]
      cases b with
      | none => rfl
      | some j => show (ok2 i && bt i j) = (ok2 i && bt2 i j); rw [h2 i j (by omega) hb]
    rw [e]
    refine q_bs_c h1 h2 n (i + 1) _ (by omega) ?_
    cases (ok2 i && q_bto (bt2 i) b) with
    | true => exact (show i < gc by omega)
    | false => exact hb
theorem s_bst {sw : Bool} {gc : Nat} {A B : Nat → Nat → Int32} (h : s_L sw gc A B) {w : Nat} (hw : w < 30) : x_bst sw A gc w = r_bst B gc w := q_bs_c (fun k hk => s_mt h hw hk) (fun k j hk hj => s_bt h hw hk hj) gc 0 none (by omega) trivial
theorem x_lt_un {A : Nat → Nat → Int32} {k w i j : Nat} (h : ¬ (i = 2 * k + 89 ∧ (j = 3 ∨ j = 4 ∨ j = 5)) ∧ ¬ (i = w + 16 ∧ j = 3)) : x_lt A k w i j = A i j := by
  unfold x_lt x_tk
  rw [q_un _ _ (by omega), q_un _ _ (by omega), q_un _ _ (by omega), q_un _ _ (by omega)]
theorem r_lt_un {B : Nat → Nat → Int32} {k w i j : Nat} (h : ¬ (i = 73 ∧ j = w) ∧ ¬ ((i = 76 ∨ i = 77 ∨ i = 78) ∧ j = k)) : r_lt B k w i j = B i j := by
  unfold r_lt
  rw [q_un _ _ (by omega), q_un _ _ (by omega), q_un _ _ (by omega), q_un _ _ (by omega)]
theorem s_L_lt {sw : Bool} {gc : Nat} {A B : Nat → Nat → Int32} (h : s_L sw gc A B) (hg : gc ≤ 8) {k w : Nat} (hk : k < gc) (hw : w < 30) : s_L sw gc (x_lt A k w) (r_lt B k w) := by
  refine ⟨fun w2 hw2 => ?_, fun j hj => ?_, ?_⟩
  · rw [x_lt_un (i := w2 + 16) (j := 2) (by omega), r_lt_un (i := 72) (by omega)]
    refine ⟨(h.1 w2 hw2).1, ?_⟩
    by_cases e : w2 = w
    · subst e
      unfold x_lt r_lt
      rw [q_us, q_un _ _ (by omega), q_un _ _ (by omega), q_un _ _ (by omega), q_us]
    · rw [x_lt_un (by omega), r_lt_un (by omega)]; exact (h.1 w2 hw2).2
  · obtain ⟨h1, h2, h3, h4, h5⟩ := h.2.1 j hj
    by_cases e : j = k
    · subst e
      have a3 : x_lt A j w (2 * j + 89) 3 = A (2 * j + 89) 3 + 1 := by unfold x_lt x_tk; rw [q_un _ _ (by omega), q_us]
      have a4 : x_lt A j w (2 * j + 89) 4 = nI w := by unfold x_lt x_tk; rw [q_un _ _ (by omega), q_un _ _ (by omega), q_un _ _ (by omega), q_us]
      have a5 : x_lt A j w (2 * j + 89) 5 = A (2 * j + 90) w := by unfold x_lt x_tk; rw [q_un _ _ (by omega), q_un _ _ (by omega), q_us]
      have b6 : r_lt B j w 76 j = B 76 j + 1 := by unfold r_lt; rw [q_us]
      have b7 : r_lt B j w 77 j = nI w := by unfold r_lt; rw [q_un _ _ (by omega), q_un _ _ (by omega), q_us]
      have b8 : r_lt B j w 78 j = B 81 (30 * j + w) := by unfold r_lt; rw [q_un _ _ (by omega), q_us]
      rw [a3, a4, a5, b6, b7, b8, h1, h5 w hw, if_neg (q_neN (by decide) (by omega))]
      refine ⟨rfl, rfl, rfl, Or.inr ⟨w, hw, rfl⟩, fun w2 hw2 => ?_⟩
      rw [x_lt_un (by omega), r_lt_un (by omega)]; exact h5 w2 hw2
    · rw [x_lt_un (by omega), x_lt_un (by omega), x_lt_un (by omega), r_lt_un (by omega), r_lt_un (by omega), r_lt_un (by omega)]
      refine ⟨h1, h2, h3, h4, fun w2 hw2 => ?_⟩
      rw [x_lt_un (by omega), r_lt_un (by omega)]; exact h5 w2 hw2
  · rw [r_lt_un (by omega), ← h.2.2]
    cases sw with
    | false => exact x_lt_un (A := A) (k := k) (w := w) (i := 5) (j := 0) (by omega)
    | true => exact x_lt_un (A := A) (k := k) (w := w) (i := 10) (j := 0) (by omega)
theorem s_let_ind {sw : Bool} {gc : Nat} (hg : gc ≤ 8) : ∀ (n w : Nat) (A B : Nat → Nat → Int32), w + n = 30 → s_L sw gc A B → x_letC sw gc n w A = r_letC gc n w B ∧ s_L sw gc (x_letI sw gc n w A) (r_letI gc n w B) ∧ (∀ i j, ¬ (16 ≤ i ∧ i < 46 ∧ j = 3) → ¬ (89 ≤ i ∧ (j = 3 ∨ j = 4 ∨ j = 5) ∧ i % 2 = 1) → x_letI sw gc n w A i j = A i j) ∧ (∀ i j, ¬ i = 73 → ¬ (76 ≤ i ∧ i ≤ 78 ∧ j < gc) → r_letI gc n w B i j = B i j)
  | 0, _, _, _, _, h => ⟨rfl, h, fun _ _ _ _ => rfl, fun _ _ _ _ => rfl⟩
  | n + 1, w, A, B, hw, h => by
    unfold x_letC r_letC x_letI r_letI
    rw [show x_may A w = r_may B w from s_mayN2 (fun w hw => (h.1 w hw).1) 6 w, s_bst h (by omega)]
    have hok : x_okO gc (cond (r_may B w) (r_bst B gc w) none) := by
      cases r_may B w with
      | true => exact q_bs_ok gc 0 none (by omega) trivial
      | false => exact trivial
    cases ho : cond (r_may B w) (r_bst B gc w) none with
    | none => exact s_let_ind hg n (w + 1) A B (by omega) h
    | some k =>
      rw [ho] at hok
      have hk : k < gc := hok
      obtain ⟨c1, c2, c3, c4⟩ := s_let_ind hg n (w + 1) (x_lt A k w) (r_lt B k w) (by omega) (s_L_lt h hg hk (by omega))
      refine ⟨congrArg (· + 1) c1, c2, fun i j a1 a2 => ?_, fun i j a1 a2 => ?_⟩
      · exact (c3 i j a1 a2).trans (x_lt_un (by omega))
      · exact (c4 i j a1 a2).trans (r_lt_un (by omega))
theorem s_let : s_Stp 80 127 [] := by
  intro d sw gc I J h
  have sc := h.2.2.2.2.2.2.1
  obtain ⟨hg, hgc, hmg, hgk⟩ := h.2.2.2.1
  by_cases hl : I 0 8 = 0
  · obtain ⟨tp, bk, wl, gg, un, ac, sc, sz, sh⟩ := h
    have hLa : s_L sw gc (q_u I 0 8 1) I := by
      refine ⟨fun w hw => ?_, fun k hk => ?_, ?_⟩
      · rw [q_un _ _ (by omega), q_un _ _ (by omega)]
        exact ⟨(wl w hw).2.2.1, (wl w hw).2.2.2⟩
      · obtain ⟨gs, gm, gk⟩ := hgk k hk
        rw [q_un _ _ (by omega), q_un _ _ (by omega), q_un _ _ (by omega)]
        refine ⟨gs.2.2.1, gs.2.2.2.1, gs.2.2.2.2.1, gm.2, fun w hw => ?_⟩
        rw [q_un _ _ (by omega)]; exact gk w hw
      · have e1 : x_num sw (q_u I 0 8 1) 0 = x_num sw I 0 := by cases sw <;> rfl
        rw [e1, s_num bk (by decide)]
        unfold r_lo
        by_cases e : I 64 0 = -4
        · rw [if_pos e, if_pos (by decide)]
        · rw [if_neg e]
    obtain ⟨-, -, c3, -⟩ := s_let_ind hg 30 0 _ _ rfl hLa
    have eB : ∀ i j, i < 89 → ¬ (16 ≤ i ∧ i < 46 ∧ j = 3) → ¬ (i = 62 ∧ j = 29) → ¬ (i = 0 ∧ j = 8) → q_u (x_letI sw gc 30 0 (q_u I 0 8 1)) 62 29 1 i j = I i j := by
      intro i j a0 a1 a2 a3
      rw [q_un _ _ a2, c3 i j a1 (by omega), q_un _ _ a3]
    have hLb : s_L sw gc (q_u I 0 8 1) (q_u (x_letI sw gc 30 0 (q_u I 0 8 1)) 62 29 1) := by
      refine ⟨fun w hw => ?_, fun k hk => ?_, ?_⟩
      · rw [eB 72 w (by omega) (by omega) (by omega) (by omega), eB 73 w (by omega) (by omega) (by omega) (by omega)]; exact hLa.1 w hw
      · rw [eB 76 k (by omega) (by omega) (by omega) (by omega), eB 77 k (by omega) (by omega) (by omega) (by omega), eB 78 k (by omega) (by omega) (by omega) (by omega)]
        obtain ⟨b1, b2, b3, b4, b5⟩ := hLa.2.1 k hk
        refine ⟨b1, b2, b3, b4, fun w hw => ?_⟩
        rw [eB 81 _ (by omega) (by omega) (by omega) (by omega)]; exact b5 w hw
      · rw [eB 64 0 (by omega) (by omega) (by omega) (by omega)]; exact hLa.2.2
    obtain ⟨e1, hL, _, d4⟩ := s_let_ind hg 30 0 _ _ rfl hLb
    have X := x_let (d := d + 9) (sw := sw) (J := J) hgc hg hl
    have e29 : x_letI sw gc 30 0 (q_u I 0 8 1) 62 29 = I 62 29 := by rw [c3 62 29 (by omega) (by omega), q_un _ _ (by omega)]
    have R := r_let (d := d + 11) (sw := sw) (gc := gc) (J := J) (I := x_letI sw gc 30 0 (q_u I 0 8 1)) (by rw [c3 62 20 (by omega) (by omega), q_un _ _ (by omega)]; exact hmg) hg (by rw [e29, ← sc.2.1]; exact hl)
    rw [← e1] at R
    have hu : ∀ i j, i < 89 → ¬ (16 ≤ i ∧ i < 46 ∧ j = 3) → ¬ (i = 62 ∧ j = 29) → ¬ (i = 0 ∧ j = 8) → ¬ i = 73 → ¬ (76 ≤ i ∧ i ≤ 78 ∧ j < gc) → r_letI gc 30 0 (q_u (x_letI sw gc 30 0 (q_u I 0 8 1)) 62 29 1) i j = I i j := by
      intro i j a0 a1 a2 a3 a4 a5
      rw [d4 i j a4 a5, eB i j a0 a1 a2 a3]
    have hx : ∀ i j, ¬ i = 73 → ¬ (76 ≤ i ∧ i ≤ 78) → ¬ (i = 62 ∧ j = 29) → r_letI gc 30 0 (q_u (x_letI sw gc 30 0 (q_u I 0 8 1)) 62 29 1) i j = x_letI sw gc 30 0 (q_u I 0 8 1) i j := by
      intro i j a1 a2 a3
      rw [d4 i j a1 (by omega), q_un _ _ a3]
    refine ⟨_, sw, gc, _, J, _, J, Nat.le_refl _, X, R, s_tp_c tp (fun i j hi => hu i j (by omega) (by omega) (by omega) (by omega) (by omega) (by omega)), s_bk_c bk (fun i j hi => hu i j (by omega) (by omega) (by omega) (by omega) (by omega) (by omega)), fun w hw => ?_, ⟨hg, ?_, ?_, fun k hk => ?_⟩, fun k k1 k2 => ?_, s_ac_c ac (fun i j hi => hu i j (by omega) (by omega) (by omega) (by omega) (by omega) (by omega)), ?_, s_sz_c sz (fun i j hi => hu i j (by omega) (by omega) (by omega) (by omega) (by omega) (by omega)), s_sh_c sh (fun i j hi => hu i j (by omega) (by omega) (by omega) (by omega) (by omega) (by omega)) (fun _ _ _ => rfl)⟩
    · rw [hu (w + 16) 0 (by omega) (by omega) (by omega) (by omega) (by omega) (by omega), hu (w + 16) 1 (by omega) (by omega) (by omega) (by omega) (by omega) (by omega), hu (w + 16) 2 (by omega) (by omega) (by omega) (by omega) (by omega) (by omega), hu 70 w (by omega) (by omega) (by omega) (by omega) (by omega) (by omega), hu 71 w (by omega) (by omega) (by omega) (by omega) (by omega) (by omega), hu 72 w (by omega) (by omega) (by omega) (by omega) (by omega) (by omega), hx (w + 16) 3 (by omega) (by omega) (by omega)]
      exact ⟨(wl w hw).1, (wl w hw).2.1, (wl w hw).2.2.1, (hL.1 w hw).2⟩
    · rw [hu 0 6 (by omega) (by omega) (by omega) (by omega) (by omega) (by omega)]; exact hgc
    · rw [hu 62 20 (by omega) (by omega) (by omega) (by omega) (by omega) (by omega)]; exact hmg
    · obtain ⟨gs, gm, gk⟩ := hgk k hk
      obtain ⟨b1, b2, b3, b4, b5⟩ := hL.2.1 k hk
      have f : ∀ j, ¬ (j = 3 ∨ j = 4 ∨ j = 5) → r_letI gc 30 0 (q_u (x_letI sw gc 30 0 (q_u I 0 8 1)) 62 29 1) (2 * k + 89) j = I (2 * k + 89) j := by
        intro j hj
        rw [hx _ _ (by omega) (by omega) (by omega), c3 _ _ (by omega) (by omega), q_un _ _ (by omega)]
      refine ⟨?_, ⟨?_, b4⟩, fun w hw => ?_⟩
      · unfold s_gs
        rw [f 1 (by omega), f 2 (by omega), f 6 (by omega), f 7 (by omega), hx (2 * k + 89) 3 (by omega) (by omega) (by omega), hx (2 * k + 89) 4 (by omega) (by omega) (by omega), hx (2 * k + 89) 5 (by omega) (by omega) (by omega), hu 74 k (by omega) (by omega) (by omega) (by omega) (by omega) (by omega), hu 75 k (by omega) (by omega) (by omega) (by omega) (by omega) (by omega), hu 79 k (by omega) (by omega) (by omega) (by omega) (by omega) (by omega), hu 80 k (by omega) (by omega) (by omega) (by omega) (by omega) (by omega)]
        exact ⟨gs.1, gs.2.1, b1, b2, b3, gs.2.2.2.2.2.1, gs.2.2.2.2.2.2⟩
      · rw [hu 74 k (by omega) (by omega) (by omega) (by omega) (by omega) (by omega)]; exact gm.1
      · rw [hx (2 * k + 90) w (by omega) (by omega) (by omega)]; exact b5 w hw
    · obtain ⟨u1, u2, u3, u4, u5⟩ := un k k1 k2
      rw [hu 75 k (by omega) (by omega) (by omega) (by omega) (by omega) (by omega), hu 76 k (by omega) (by omega) (by omega) (by omega) (by omega) (by omega), hu 79 k (by omega) (by omega) (by omega) (by omega) (by omega) (by omega), hu 80 k (by omega) (by omega) (by omega) (by omega) (by omega) (by omega)]
      refine ⟨u1, u2, u3, u4, fun w hw => ?_⟩
      rw [hu 81 _ (by omega) (by omega) (by omega) (by omega) (by omega) (by omega)]
      exact u5 w hw
    · have e8 : r_letI gc 30 0 (q_u (x_letI sw gc 30 0 (q_u I 0 8 1)) 62 29 1) 0 8 = 1 := by rw [hx 0 8 (by omega) (by omega) (by omega), c3 0 8 (by omega) (by omega), q_us]
      have e9 : r_letI gc 30 0 (q_u (x_letI sw gc 30 0 (q_u I 0 8 1)) 62 29 1) 62 29 = 1 := by rw [d4 62 29 (by omega) (by omega), q_us]
      unfold s_sc
      rw [e8, e9, hu 0 3 (by omega) (by omega) (by omega) (by omega) (by omega) (by omega), hu 0 9 (by omega) (by omega) (by omega) (by omega) (by omega) (by omega), hu 0 11 (by omega) (by omega) (by omega) (by omega) (by omega) (by omega), hu 0 12 (by omega) (by omega) (by omega) (by omega) (by omega) (by omega), hu 0 13 (by omega) (by omega) (by omega) (by omega) (by omega) (by omega), hu 62 6 (by omega) (by omega) (by omega) (by omega) (by omega) (by omega), hu 62 30 (by omega) (by omega) (by omega) (by omega) (by omega) (by omega), hu 62 31 (by omega) (by omega) (by omega) (by omega) (by omega) (by omega), hu 62 36 (by omega) (by omega) (by omega) (by omega) (by omega) (by omega), hu 62 37 (by omega) (by omega) (by omega) (by omega) (by omega) (by omega)]
      exact ⟨sc.1, rfl, sc.2.2⟩
  · exact s_keep h (x_letS (d := d + 9) hl) (r_letS (d := d + 11) (sc.2.1 ▸ hl))
