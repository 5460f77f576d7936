theorem x_gg_un {I : Nat → Nat → Int32} {gc : Nat} {v : Int32} {i j : Nat} (h1 : ¬ i = 2 * gc + 89) (h2 : ¬ i = 2 * gc + 90) (h3 : ¬ (i = 0 ∧ j = 6)) : x_gg I gc v i j = I i j := by
  unfold x_gg
  rw [q_un _ _ h3]
  unfold q_fil
  rw [if_neg (by omega)]
  unfold x_gi
  rw [q_un _ _ (by omega), q_un _ _ (by omega), q_un _ _ (by omega), q_un _ _ (by omega), q_un _ _ (by omega), q_un _ _ (by omega), q_un _ _ (by omega)]
  unfold q_z
  rw [if_neg (by omega), if_neg (by omega)]
theorem x_gg_at {I : Nat → Nat → Int32} {gc : Nat} {v : Int32} : x_gg I gc v (2 * gc + 89) 1 = v ∧ x_gg I gc v (2 * gc + 89) 2 = 0 ∧ x_gg I gc v (2 * gc + 89) 3 = 0 ∧ x_gg I gc v (2 * gc + 89) 4 = -4 ∧ x_gg I gc v (2 * gc + 89) 5 = 0 ∧ x_gg I gc v (2 * gc + 89) 6 = 0 ∧ x_gg I gc v (2 * gc + 89) 7 = 0 := by
  have e : ∀ j, x_gg I gc v (2 * gc + 89) j = x_gi (q_z (q_z I (2 * gc + 89) 0) (2 * gc + 89 + 1) 0) (2 * gc + 89) v (2 * gc + 89) j := by
    intro j
    unfold x_gg
    rw [q_un _ _ (by omega)]
    unfold q_fil
    rw [if_neg (by omega)]
  rw [e, e, e, e, e, e, e]
  unfold x_gi
  refine ⟨?_, ?_, ?_, ?_, ?_, ?_, ?_⟩
  · rw [q_us]
  · rw [q_un _ _ (by omega), q_un _ _ (by omega), q_un _ _ (by omega), q_un _ _ (by omega), q_un _ _ (by omega), q_un _ _ (by omega), q_us]
  · rw [q_un _ _ (by omega), q_un _ _ (by omega), q_un _ _ (by omega), q_un _ _ (by omega), q_un _ _ (by omega), q_us]
  · rw [q_un _ _ (by omega), q_un _ _ (by omega), q_un _ _ (by omega), q_un _ _ (by omega), q_us]
  · rw [q_un _ _ (by omega), q_un _ _ (by omega), q_un _ _ (by omega), q_us]
  · rw [q_un _ _ (by omega), q_un _ _ (by omega), q_us]
  · rw [q_un _ _ (by omega), q_us]
theorem x_gg_ask {I : Nat → Nat → Int32} {gc : Nat} {v : Int32} {w : Nat} (hw : w < 30) : x_gg I gc v (2 * gc + 90) w = -4 := by
  unfold x_gg
  rw [q_un _ _ (by omega)]
  unfold q_fil
  rw [if_pos (by omega)]
theorem s_gang (v : Int32) : s_Stp 76 122 [.int v] := by
  intro d sw gc I J h
  obtain ⟨hg, hgc, hmg, hgk⟩ := h.2.2.2.1
  by_cases h1 : v < 1
  · exact s_keep h (x_gangA (d := d + 12) (Or.inl h1)) (r_gangA (d := d + 11) (f_i3_0 (Or.inl h1)))
  · by_cases h2 : 6 < v
    · exact s_keep h (x_gangA (d := d + 12) (Or.inr h2)) (r_gangA (d := d + 11) (f_i3_0 (Or.inr h2)))
    · have h3 : f_i3 v 1 6 = 1 := f_i3_1 h1 h2
      by_cases h8 : gc < 8
      · obtain ⟨m, m1, m6, em⟩ : ∃ m, 1 ≤ m ∧ m ≤ 6 ∧ v = nI m := by
          rcases q_ix v (n := 7) (by decide) with ⟨m, hm, rfl⟩ | hb
          · refine ⟨m, ?_, by omega, rfl⟩
            rcases Nat.eq_zero_or_pos m with e | e
            · subst e; exact absurd (by decide) h1
            · exact e
          · exfalso
            rw [q_lt_int, show (1 : Int32).toInt = 1 from rfl] at h1
            rw [q_lt_int, show (6 : Int32).toInt = 6 from rfl] at h2
            rcases hb with hb | hb
            · rw [q_lt_int, show (0 : Int32).toInt = 0 from rfl] at hb; omega
            · rw [q_le_int, show (nI 7).toInt = 7 from rfl] at hb; omega
        obtain ⟨tp, bk, wl, gg, un, ac, sc, sz, sh⟩ := h
        have R := r_gangC (d := d + 11) (sw := sw) (gc := gc + 1) (J := x_gJ J gc) (I := x_gg I gc v) h3 (n := gc) ((x_gg_un (by omega) (by omega) (by omega)).trans hmg) h8
        have hu : ∀ i j, ¬ i = 2 * gc + 89 → ¬ i = 2 * gc + 90 → ¬ (i = 0 ∧ j = 6) → ¬ (i = 74 ∧ j = gc) → ¬ (i = 77 ∧ j = gc) → ¬ (i = 62 ∧ j = 20) → q_u (q_u (q_u (x_gg I gc v) 74 gc v) 77 gc (-4)) 62 20 (nI (gc + 1)) i j = I i j := by
          intro i j a1 a2 a3 a4 a5 a6
          rw [q_un _ _ a6, q_un _ _ a5, q_un _ _ a4, x_gg_un a1 a2 a3]
        have hJ : ∀ i j, i < 89 → x_gJ J gc i j = J i j := by
          intro i j hi
          unfold x_gJ q_z
          rw [if_neg (by omega), if_neg (by omega)]
        obtain ⟨g1, g2, g3, g4, g5, g6, g7⟩ := x_gg_at (I := I) (gc := gc) (v := v)
        refine ⟨_, sw, gc + 1, _, _, _, _, Nat.le_succ _, x_gangC (d := d + 10) h1 h2 hgc h8, R, s_tp_c tp (fun i j hi => hu i j (by omega) (by omega) (by omega) (by omega) (by omega) (by omega)), s_bk_c bk (fun i j hi => hu i j (by omega) (by omega) (by omega) (by omega) (by omega) (by omega)), s_wl_c wl (fun i j hi => hu i j (by omega) (by omega) (by omega) (by omega) (by omega) (by omega)), ⟨h8, ?_, q_us _ _ _ _, fun k hk => ?_⟩, ?_, s_ac_c ac (fun i j hi => hu i j (by omega) (by omega) (by omega) (by omega) (by omega) (by omega)), s_sc_c sc (fun i j hi => hu i j (by omega) (by omega) (by omega) (by omega) (by omega) (by omega)), s_sz_c sz (fun i j hi => hu i j (by omega) (by omega) (by omega) (by omega) (by omega) (by omega)), s_sh_c sh (fun i j hi => hu i j (by omega) (by omega) (by omega) (by omega) (by omega) (by omega)) (fun i j hi => hJ i j (by omega))⟩
        · rw [q_un _ _ (by omega), q_un _ _ (by omega), q_un _ _ (by omega)]
          unfold x_gg
          rw [q_us]
        · by_cases ek : k = gc
          · subst ek
            obtain ⟨u1, u2, u3, u4, u5⟩ := un k (Nat.le_refl _) h8
            refine ⟨?_, ⟨⟨m, m1, m6, ?_⟩, Or.inl ?_⟩, fun w hw => ?_⟩
            · unfold s_gs
              have r : ∀ j, q_u (q_u (q_u (x_gg I k v) 74 k v) 77 k (-4)) 62 20 (nI (k + 1)) (2 * k + 89) j = x_gg I k v (2 * k + 89) j := by
                intro j
                rw [q_un _ _ (by omega), q_un _ _ (by omega), q_un _ _ (by omega)]
              rw [r, r, r, r, r, r, r, g1, g2, g3, g4, g5, g6, g7, hu 75 k (by omega) (by omega) (by omega) (by omega) (by omega) (by omega), hu 76 k (by omega) (by omega) (by omega) (by omega) (by omega) (by omega), hu 78 k (by omega) (by omega) (by omega) (by omega) (by omega) (by omega), hu 79 k (by omega) (by omega) (by omega) (by omega) (by omega) (by omega), hu 80 k (by omega) (by omega) (by omega) (by omega) (by omega) (by omega), u1, u2, u3, u4]
              have e77 : q_u (q_u (q_u (x_gg I k v) 74 k v) 77 k (-4)) 62 20 (nI (k + 1)) 77 k = -4 := by rw [q_un _ _ (by omega), q_us]
              have e74 : q_u (q_u (q_u (x_gg I k v) 74 k v) 77 k (-4)) 62 20 (nI (k + 1)) 74 k = v := by rw [q_un _ _ (by omega), q_un _ _ (by omega), q_us]
              rw [e77, e74, if_pos rfl]
              exact ⟨rfl, rfl, rfl, rfl, rfl, rfl, rfl⟩
            · rw [q_un _ _ (by omega), q_un _ _ (by omega), q_us]; exact em
            · rw [q_un _ _ (by omega), q_us]
            · rw [hu 81 _ (by omega) (by omega) (by omega) (by omega) (by omega) (by omega), u5 w hw, q_un _ _ (by omega), q_un _ _ (by omega), q_un _ _ (by omega), x_gg_ask hw]
          · obtain ⟨gs, gm, gk⟩ := hgk k (by omega)
            exact ⟨s_gs_c gs (fun i j hi => hu i j (by omega) (by omega) (by omega) (by omega) (by omega) (by omega)), s_gm_c gm (fun i hi => hu i k (by omega) (by omega) (by omega) (by omega) (by omega) (by omega)), s_gk_c gk (fun i w hw => ⟨fun hi => hu i w (by omega) (by omega) (by omega) (by omega) (by omega) (by omega), fun hi => hu i _ (by omega) (by omega) (by omega) (by omega) (by omega) (by omega)⟩)⟩
        · intro k k1 k2
          rw [hu 75 k (by omega) (by omega) (by omega) (by omega) (by omega) (by omega), hu 76 k (by omega) (by omega) (by omega) (by omega) (by omega) (by omega), hu 79 k (by omega) (by omega) (by omega) (by omega) (by omega) (by omega), hu 80 k (by omega) (by omega) (by omega) (by omega) (by omega) (by omega)]
          obtain ⟨u1, u2, u3, u4, u5⟩ := un k (by omega) k2
          refine ⟨u1, u2, u3, u4, fun w hw => ?_⟩
          rw [hu 81 _ (by omega) (by omega) (by omega) (by omega) (by omega) (by omega)]
          exact u5 w hw
      · obtain rfl : gc = 8 := by omega
        exact s_keep h (x_gangB (d := d + 12) h1 h2 (by rw [hgc]; decide)) (r_gangB (d := d + 11) h3 hmg)
/-! asks -/
theorem q_cnt_up {p p2 : Nat → Bool} {x : Nat} (hx : ∀ j, ¬ j = x → p2 j = p j) (h1 : p x = false) (h2 : p2 x = true) : ∀ (n i : Nat), i ≤ x → x < i + n → q_cnt p2 n i = q_cnt p n i + 1
  | 0, i, h3, h4 => absurd h4 (by omega)
  | n + 1, i, h3, h4 => by
    unfold q_cnt
    by_cases e : i = x
    · subst e
      rw [h1, h2, q_cnt_c (p := p) n (i + 1) (fun j a b => hx j (by omega))]
      show 1 + _ = 0 + _ + 1
      omega
    · rw [hx i e, q_cnt_up hx h1 h2 n (i + 1) (by omega) (by omega)]
      omega
theorem s_ask_Rel {sw : Bool} {gc k w : Nat} {I : Nat → Nat → Int32} {J : Nat → Nat → Int64} {p : Int32} (h : s_Rel sw gc I J) (hk : k < gc) (hw : w < 30) (hp : ¬ p = -4) {I1 : Nat → Nat → Int32} (e1 : ∀ i j, ¬ (i = 0 ∧ j = 7) → ¬ (i = 2 * k + 90 ∧ j = w) → I1 i j = I i j) (e2 : I1 (2 * k + 90) w = p) (e3 : I1 0 7 = nI (q_cnt (r_askP (q_u I 81 (30 * k + w) p)) 240 0)) : s_Rel sw gc (q_u I1 81 (30 * k + w) p) J := by
  obtain ⟨tp, bk, wl, gg, un, ac, sc, sz, sh⟩ := h
  have hg := gg.1
  have hu : ∀ i j, ¬ (i = 0 ∧ j = 7) → ¬ (i = 2 * k + 90 ∧ j = w) → ¬ (i = 81 ∧ j = 30 * k + w) → q_u I1 81 (30 * k + w) p i j = I i j := by
    intro i j a1 a2 a3
    rw [q_un _ _ a3, e1 i j a1 a2]
  refine ⟨s_tp_c tp (fun i j hi => hu i j (by omega) (by omega) (by omega)), s_bk_c bk (fun i j hi => hu i j (by omega) (by omega) (by omega)), s_wl_c wl (fun i j hi => hu i j (by omega) (by omega) (by omega)), ?_, ?_, ?_, s_sc_c sc (fun i j hi => hu i j (by omega) (by omega) (by omega)), s_sz_c sz (fun i j hi => hu i j (by omega) (by omega) (by omega)), s_sh_c sh (fun i j hi => hu i j (by omega) (by omega) (by omega)) (fun _ _ _ => rfl)⟩
  · refine s_gg_k (k := k) gg (fun i j hi => hu i j (by omega) (by omega) (by omega)) (fun _ => ?_)
    obtain ⟨gs, gm, gk⟩ := gg.2.2.2 k hk
    refine ⟨s_gs_c gs (fun i j hi => hu i j (by omega) (by omega) (by omega)), s_gm_c gm (fun i hi => hu i k (by omega) (by omega) (by omega)), fun w2 hw2 => ?_⟩
    by_cases e : w2 = w
    · subst e
      rw [q_us, q_un _ _ (by omega), e2]
    · rw [hu (2 * k + 90) w2 (by omega) (by omega) (by omega), hu 81 _ (by omega) (by omega) (by omega)]
      exact gk w2 hw2
  · intro j h1 h2
    rw [hu 75 j (by omega) (by omega) (by omega), hu 76 j (by omega) (by omega) (by omega), hu 79 j (by omega) (by omega) (by omega), hu 80 j (by omega) (by omega) (by omega)]
    obtain ⟨u1, u2, u3, u4, u5⟩ := un j h1 h2
    refine ⟨u1, u2, u3, u4, fun w2 hw2 => ?_⟩
    rw [hu 81 _ (by omega) (by omega) (by omega)]
    exact u5 w2 hw2
  · unfold s_ac
    rw [q_un _ _ (by omega), e3]
    refine congrArg nI (q_cnt_c 240 0 (fun j _ _ => ?_)).symm
    unfold r_askP
    by_cases e : j = 30 * k + w
    · subst e; rw [q_us, q_us]
    · rw [q_un _ _ (by omega), q_un _ _ (by omega), e1 81 j (by omega) (by omega)]
theorem s_ask (x g c p : Int32) : s_Stp 79 126 [.int x, .int g, .int c, .int p] := by
  intro d sw gc I J h
  obtain ⟨hg, hgc, hmg, hgk⟩ := h.2.2.2.1
  rcases s_gi hg x with ⟨k, hk, rfl⟩ | hx
  · rcases q_face g c with ⟨a, b, ha, hb, rfl, rfl⟩ | hbad
    · have X := x_ask (d := d + 11) (sw := sw) (J := J) I k a b p hgc hg hk ha hb
      have hl := h.2.2.2.2.2.2.1.2.1
      have hgk2 := (hgk k hk).2.2 (6 * a + b) (by omega)
      have hac := h.2.2.2.2.2.1
      unfold f_x_ask fm_x_ask at X
      by_cases h1 : p < 0
      · rw [if_pos h1, if_pos h1] at X
        exact s_keep h X (r_askP0 (d := d + 10) hmg hg hk ha hb (f_i3_0 (Or.inl h1)))
      · rw [if_neg h1, if_neg h1] at X
        by_cases h2 : p ≤ 9999
        · rw [if_pos h2, if_pos h2] at X
          have hp : f_i3 p 0 9999 = 1 := f_i3_1 h1 (Int32.not_lt.mpr h2)
          have hp4 : ¬ p = -4 := fun e => h1 (by rw [e]; decide)
          by_cases h3 : I 0 8 = 0
          · rw [if_pos h3, if_pos h3] at X
            have ea : 30 * k + 6 * a + b = 30 * k + (6 * a + b) := by omega
            have hcn : ∀ {b1 : Bool}, r_askP I (30 * k + (6 * a + b)) = b1 → nI (q_cnt (r_askP (q_u I 81 (30 * k + (6 * a + b)) p)) 240 0) = if b1 = true then I 0 7 else I 0 7 + 1 := by
              intro b1 hb1
              have hx : ∀ j, ¬ j = 30 * k + (6 * a + b) → r_askP (q_u I 81 (30 * k + (6 * a + b)) p) j = r_askP I j := by
                intro j hj
                unfold r_askP
                rw [q_un _ _ (by omega)]
              have hx2 : r_askP (q_u I 81 (30 * k + (6 * a + b)) p) (30 * k + (6 * a + b)) = true := by
                unfold r_askP
                rw [q_us, decide_eq_false hp4]; rfl
              cases b1 with
              | true =>
                rw [if_pos rfl, hac]
                refine congrArg nI (q_cnt_c 240 0 (fun j _ _ => ?_))
                by_cases e : j = 30 * k + (6 * a + b)
                · subst e; rw [hx2, hb1]
                · exact hx j e
              | false =>
                rw [if_neg (by decide), hac, q_cnt_up hx hb1 hx2 240 0 (by omega) (by omega), nI_1]
            by_cases h4 : I (2 * k + 90) (6 * a + b) = -4
            · rw [if_pos h4, if_pos h4] at X
              have hb1 : r_askP I (30 * k + (6 * a + b)) = false := by unfold r_askP; rw [← hgk2, decide_eq_true h4]; rfl
              have hc := hcn hb1
              rw [if_neg (by decide)] at hc
              have R := r_ask (d := d + 10) (sw := sw) (gc := gc) (J := J) (I := q_u (q_u I 0 7 ((I 0 7) + 1)) (2 * k + 90) (6 * a + b) p) (by rw [q_un _ _ (by omega), q_un _ _ (by omega)]; exact hmg) hg hk ha hb hp (by rw [q_un _ _ (by omega), q_un _ _ (by omega), ← hl]; exact h3)
              rw [ea] at R
              have ec : q_cnt (r_askP (q_u (q_u (q_u I 0 7 ((I 0 7) + 1)) (2 * k + 90) (6 * a + b) p) 81 (30 * k + (6 * a + b)) p)) 240 0 = q_cnt (r_askP (q_u I 81 (30 * k + (6 * a + b)) p)) 240 0 := by
                refine q_cnt_c 240 0 (fun j _ _ => ?_)
                unfold r_askP
                by_cases e : j = 30 * k + (6 * a + b)
                · subst e; rw [q_us, q_us]
                · rw [q_un _ _ (by omega), q_un _ _ (by omega), q_un _ _ (by omega), q_un _ _ (by omega)]
              rw [ec, hc] at R
              refine ⟨_, sw, gc, _, J, _, J, Nat.le_refl _, X, R, s_ask_Rel h hk (by omega) hp4 (fun i j a1 a2 => by rw [q_un _ _ a2, q_un _ _ a1]) (q_us _ _ _ _) ?_⟩
              rw [q_un _ _ (by omega), q_us, hc]
            · rw [if_neg h4, if_neg h4] at X
              have hb1 : r_askP I (30 * k + (6 * a + b)) = true := by unfold r_askP; rw [← hgk2, decide_eq_false h4]; rfl
              have hc := hcn hb1
              rw [if_pos rfl] at hc
              have R := r_ask (d := d + 10) (sw := sw) (gc := gc) (J := J) (I := q_u I (2 * k + 90) (6 * a + b) p) (by rw [q_un _ _ (by omega)]; exact hmg) hg hk ha hb hp (by rw [q_un _ _ (by omega), ← hl]; exact h3)
              rw [ea] at R
              have ec : q_cnt (r_askP (q_u (q_u I (2 * k + 90) (6 * a + b) p) 81 (30 * k + (6 * a + b)) p)) 240 0 = q_cnt (r_askP (q_u I 81 (30 * k + (6 * a + b)) p)) 240 0 := by
                refine q_cnt_c 240 0 (fun j _ _ => ?_)
                unfold r_askP
                by_cases e : j = 30 * k + (6 * a + b)
                · subst e; rw [q_us, q_us]
                · rw [q_un _ _ (by omega), q_un _ _ (by omega), q_un _ _ (by omega)]
              rw [ec, hc] at R
              refine ⟨_, sw, gc, _, J, _, J, Nat.le_refl _, X, R, s_ask_Rel h hk (by omega) hp4 (fun i j a1 a2 => by rw [q_un _ _ a2]) (q_us _ _ _ _) ?_⟩
              rw [q_un _ _ (by omega), hc]
          · rw [if_neg h3, if_neg h3] at X
            exact s_keep h X (r_askL (d := d + 10) hmg hg hk ha hb hp (hl ▸ h3))
        · rw [if_neg h2, if_neg h2] at X
          exact s_keep h X (r_askP0 (d := d + 10) hmg hg hk ha hb (f_i3_0 (Or.inr (Int32.not_le.mp h2))))
    · exact s_keep h (x_askF (d := d + 11) hbad hgc hg hk) (r_askF (d := d + 10) hmg hg hk hbad)
  · rcases q_face g c with ⟨a, b, ha, hb, rfl, rfl⟩ | hbad
    · exact s_keep h (x_askG (d := d + 11) ha hb hgc hg hx) (r_askG (d := d + 10) hmg hg hx)
    · exact s_keep h (x_askFG (d := d + 11) hbad hgc hg hx) (r_askG (d := d + 10) hmg hg hx)
