/-! ===== laws ===== -/
theorem t_read_f {t : Nat → Int32} : ∀ (n : Nat) (x : Int32 × t_S × t_D), ¬ x.1 = 0 → t_read t n x = x
  | 0, _, _ => rfl
  | n + 1, x, h => by
    unfold t_read
    rw [if_neg h]
theorem t_read_v {t : Nat → Int32} (n : Nat) (f : Int32) (p k q : Nat) (v v2 : Int32) (D : t_D) (hv : f = 0 → k = 1 → v = v2) : (t_read t n (f, (p, k, v, q), D)).1 = (t_read t n (f, (p, k, v2, q), D)).1 ∧ (t_read t n (f, (p, k, v, q), D)).2.1.2.2.2 = (t_read t n (f, (p, k, v2, q), D)).2.1.2.2.2 ∧ (t_read t n (f, (p, k, v, q), D)).2.2 = (t_read t n (f, (p, k, v2, q), D)).2.2 := by
  by_cases h1 : f = 0
  · by_cases h2 : k = 1
    · rw [hv h1 h2]; exact ⟨rfl, rfl, rfl⟩
    · cases n with
      | zero => exact ⟨rfl, rfl, rfl⟩
      | succ n =>
        unfold t_read
        rw [if_pos (show (f, (p, k, v, q), D).1 = 0 from h1), if_pos (show (f, (p, k, v2, q), D).1 = 0 from h1)]
        by_cases h3 : k = 0
        · rw [if_pos (show (f, (p, k, v, q), D).2.1.2.1 = 0 from h3), if_pos (show (f, (p, k, v2, q), D).2.1.2.1 = 0 from h3)]
          exact ⟨rfl, rfl, rfl⟩
        · rw [if_neg (show ¬ (f, (p, k, v, q), D).2.1.2.1 = 0 from h3), if_neg (show ¬ (f, (p, k, v2, q), D).2.1.2.1 = 0 from h3)]
          have e : ∀ z : Int32, t_step t (f, (p, k, z, q), D) = (2, (p, k, z, q), D) := by
            intro z
            have e1 : t_law t D (p, k, z, q) = (2, (p, k, z, q), D) := by
              unfold t_law
              exact if_neg h2
            unfold t_step
            show (if (t_law t D (p, k, z, q)).1 = 0 then _ else t_law t D (p, k, z, q)) = _
            rw [e1]
            exact if_neg (show ¬ (2 : Int32) = 0 by decide)
          rw [e v, e v2, t_read_f n _ (show ¬ (2 : Int32) = 0 by decide), t_read_f n _ (show ¬ (2 : Int32) = 0 by decide)]
          exact ⟨rfl, rfl, rfl⟩
  · rw [t_read_f n _ h1, t_read_f n _ h1]; exact ⟨rfl, rfl, rfl⟩
theorem t_tok_v {t : Nat → Int32} {p k q : Nat} {v v2 : Int32} : ∃ w w2, t_tok t (p, k, v, q) = (t_n t (t_q t p), t_k (t (t_q t p)), w, t_q t p) ∧ t_tok t (p, k, v2, q) = (t_n t (t_q t p), t_k (t (t_q t p)), w2, t_q t p) ∧ (t_k (t (t_q t p)) = 1 → w = w2) := by
  refine ⟨_, _, rfl, rfl, fun h => ?_⟩
  show t_v t (t_q t p) v = t_v t (t_q t p) v2
  unfold t_v
  unfold t_k at h
  by_cases h1 : t (t_q t p) = -1
  · rw [if_pos h1] at h; exact absurd h (by decide)
  · rw [if_neg h1, if_neg h1]
    rw [if_neg h1] at h
    by_cases h2 : q_isL (t (t_q t p)) = true
    · rw [if_pos h2, if_pos h2]
    · rw [if_neg h2] at h
      by_cases h3 : q_isF (t (t_q t p)) = true
      · rw [if_pos h3] at h; exact absurd h (by decide)
      · rw [if_neg h3] at h; exact absurd h (by decide)
theorem t_read_s {t : Nat → Int32} (n : Nat) (v v2 : Int32) (D : t_D) : (t_read t n (t_er t (t_S0 v), t_tok t (t_S0 v), D)).1 = (t_read t n (t_er t (t_S0 v2), t_tok t (t_S0 v2), D)).1 ∧ (t_read t n (t_er t (t_S0 v), t_tok t (t_S0 v), D)).2.1.2.2.2 = (t_read t n (t_er t (t_S0 v2), t_tok t (t_S0 v2), D)).2.1.2.2.2 ∧ (t_read t n (t_er t (t_S0 v), t_tok t (t_S0 v), D)).2.2 = (t_read t n (t_er t (t_S0 v2), t_tok t (t_S0 v2), D)).2.2 := by
  obtain ⟨w, w2, e1, e2, h⟩ := t_tok_v (t := t) (p := 0) (k := 0) (q := 0) (v := v) (v2 := v2)
  have f1 : t_tok t (t_S0 v) = _ := e1
  have f2 : t_tok t (t_S0 v2) = _ := e2
  rw [f1, f2, show t_er t (t_S0 v2) = t_er t (t_S0 v) from rfl]
  exact t_read_v n _ _ _ _ _ _ D (fun _ hk => h hk)
theorem q_255n (x : Int32) : ¬ x &&& 255 < 0 := by
  rw [q_lt_int, show (0 : Int32).toInt = 0 from rfl]
  have h : (x &&& 255).toBitVec.msb = false := by
    rw [Int32.toBitVec_and, BitVec.msb_and]
    have : ((255 : Int32).toBitVec).msb = false := by decide
    rw [this, Bool.and_false]
  rw [BitVec.msb_eq_toInt] at h
  exact of_decide_eq_false h
theorem x_Dr_fr {b : Nat} {I I2 : Nat → Nat → Int32} {D : t_D} (h : x_Dr b I D) (e : ∀ i j, b ≤ i ∧ i ≤ b + 4 → I2 i j = I i j) : x_Dr b I2 D := x_Dr_c h e
theorem s_laws_b {d : Nat} {sw nsw : Bool} {gc b dr : Nat} {I : Nat → Nat → Int32} {J : Nat → Nat → Int64} (h : s_Rel sw gc I J) (hb : x_bk sw = b) (hdr : x_bk nsw = dr) (hbd : (b = 4 ∧ dr = 9) ∨ (b = 9 ∧ dr = 4))
  (X : ∀ {l : Nat} (_ : I 2 1 = nI l) (_ : l ≤ 200) {D : t_D} {R : Int32 × t_S × t_D} (_ : t_read (x_T I) 200 (t_er (x_T I) (t_S0 (I 1 3)), t_tok (x_T I) (t_S0 (I 1 3)), ((fun _ => -4), 0, D.2.2)) = R), ∃ I2, GM (d + 12) 70 [.ref 0] (qS sw gc I J) (some (.int (if R.1 = 0 then t_tot R.2.2 else (-10) - nI R.2.1.2.2.2))) (qS (if R.1 = 0 then nsw else sw) gc I2 J) ∧ (R.1 = 0 → x_Dr dr I2 R.2.2) ∧ I2 0 3 = R.1 ∧ I2 2 1 = 0 ∧ (∀ i j, ¬ (dr ≤ i ∧ i ≤ dr + 4) → ¬ i = 1 → ¬ (i = 0 ∧ j = 3) → ¬ (i = 2 ∧ j = 1) → I2 i j = I i j)) : ∃ (r : Int32) (sw2 : Bool) (gc2 : Nat) (I1 : Nat → Nat → Int32) (J1 : Nat → Nat → Int64) (I2 : Nat → Nat → Int32) (J2 : Nat → Nat → Int64), gc ≤ gc2 ∧ GM (d + 12) 70 [.ref 0] (qS sw gc I J) (some (.int r)) (qS sw2 gc2 I1 J1) ∧ GM (d + 12) 111 [.ref 62] (qS sw2 gc2 I1 J1) (some (.int r)) (qS sw2 gc2 I2 J2) ∧ s_Rel sw2 gc2 I2 J2 := by
  obtain ⟨⟨l, l1, l2, l3, l4⟩, ⟨c, k1, k2⟩, wl, gg, un, ac, sc, sz, sh⟩ := h
  obtain ⟨I1, g1, hD, e03, e21, fr⟩ := X l2 l1 (D := (fun _ => 0, 0, fun _ => 0, fun _ => 0)) rfl
  generalize hR : t_read (x_T I) 200 (t_er (x_T I) (t_S0 (I 1 3)), t_tok (x_T I) (t_S0 (I 1 3)), ((fun _ => -4), 0, fun _ => 0, fun _ => 0)) = R at g1 hD e03
  have hT : r_Tp I1 (x_T I) l := by
    refine ⟨by rw [fr 62 1 (by omega) (by omega) (by omega) (by omega)]; exact l3, l1, fun p hp => ?_, x_T_end l2 l1⟩
    have e : x_T I p = I 3 p &&& 255 := by
      unfold x_T
      rw [l2, q_clamp (by omega), if_pos hp]
    rw [fr 63 p (by omega) (by omega) (by omega) (by omega), e]
    exact ⟨l4 p hp, q_255n _⟩
  obtain ⟨I2, g2, hP⟩ := r_laws (d := d + 6) (sw := if R.1 = 0 then nsw else sw) (gc := gc) (J := J) hT (D := (fun _ => 0, 0, fun _ => 0, fun _ => 0)) rfl
  have hS := t_read_s (t := x_T I) 200 (I1 62 5) (I 1 3) ((fun _ => -4), 0, fun _ => 0, fun _ => 0)
  rw [hR] at hS
  generalize hR2 : t_read (x_T I) 200 (t_er (x_T I) (t_S0 (I1 62 5)), t_tok (x_T I) (t_S0 (I1 62 5)), ((fun _ => -4), 0, fun _ => 0, fun _ => 0)) = R2 at g2 hP hS
  obtain ⟨q1, q2, q3⟩ := hS
  rw [q1, q2, q3] at g2
  obtain ⟨p1, p2, p3, p4, p5⟩ := hP
  rw [q1, q3] at p1
  rw [q1] at p2 p3
  have f62 : ∀ i j, ¬ (64 ≤ i ∧ i ≤ 69) → ¬ (i = 62 ∧ (j ≤ 7 ∨ j = 9 ∨ j = 13)) → ¬ (dr ≤ i ∧ i ≤ dr + 4) → ¬ i = 1 → ¬ (i = 0 ∧ j = 3) → ¬ (i = 2 ∧ j = 1) → I2 i j = I i j := by
    intro i j a1 a2 a3 a4 a5 a6
    rw [p5 i j a1 a2, fr i j a3 a4 a5 a6]
  refine ⟨_, _, gc, I1, J, I2, J, Nat.le_refl _, g1, g2, ⟨0, by omega, ?_, p4, fun p hp => absurd hp (Nat.not_lt_zero _)⟩, ?_, s_wl_c wl (fun i j hi => f62 i j (by omega) (by omega) (by omega) (by omega) (by omega) (by omega)), s_gg_c gg (fun i j hi => f62 i j (by omega) (by omega) (by omega) (by omega) (by omega) (by omega)), s_un_c un (fun i j hi => f62 i j (by omega) (by omega) (by omega) (by omega) (by omega) (by omega)), s_ac_c ac (fun i j hi => f62 i j (by omega) (by omega) (by omega) (by omega) (by omega) (by omega)), ?_, s_sz_c sz (fun i j hi => f62 i j (by omega) (by omega) (by omega) (by omega) (by omega) (by omega)), s_sh_c sh (fun i j hi => f62 i j (by omega) (by omega) (by omega) (by omega) (by omega) (by omega)) (fun _ _ _ => rfl)⟩
  · rw [p5 2 1 (by omega) (by omega)]; exact e21
  · by_cases h0 : R.1 = 0
    · rw [if_pos h0]
      obtain ⟨a1, a2, a3⟩ := p1 h0
      refine ⟨R.2.2.2.1, a1, ?_⟩
      rw [hdr]
      refine x_Dr_d (f := R.2.2.1) (g := R.2.2.2.2.1) (h := R.2.2.2.2.2) (x_Dr_c (hD h0) (fun i j hi => p5 i j (by omega) (by omega))) a2 (fun j hj => (a3 j hj).1) (fun j hj => (a3 j hj).2)
    · rw [if_neg h0]
      obtain ⟨a1, a2⟩ := p2 h0
      refine ⟨c, by rw [a1, fr 62 9 (by omega) (by omega) (by omega) (by omega)]; exact k1, ?_⟩
      rw [hb] at k2 ⊢
      refine x_Dr_d (x_Dr_c k2 (fun i j hi => f62 i j (by omega) (by omega) (by omega) (by omega) (by omega) (by omega))) (fun k hk => ?_) (fun j hj => ?_) (fun j hj => ?_)
      · rw [(a2 k).1, fr 64 k (by omega) (by omega) (by omega) (by omega)]
      · rw [(a2 j).2.1, fr 65 j (by omega) (by omega) (by omega) (by omega)]
      · rw [(a2 j).2.2, fr 66 j (by omega) (by omega) (by omega) (by omega)]
  · unfold s_sc
    rw [p3, p5 0 3 (by omega) (by omega), e03, f62 0 8 (by omega) (by omega) (by omega) (by omega) (by omega) (by omega), f62 0 9 (by omega) (by omega) (by omega) (by omega) (by omega) (by omega), f62 0 11 (by omega) (by omega) (by omega) (by omega) (by omega) (by omega), f62 0 12 (by omega) (by omega) (by omega) (by omega) (by omega) (by omega), f62 0 13 (by omega) (by omega) (by omega) (by omega) (by omega) (by omega), f62 62 29 (by omega) (by omega) (by omega) (by omega) (by omega) (by omega), f62 62 30 (by omega) (by omega) (by omega) (by omega) (by omega) (by omega), f62 62 31 (by omega) (by omega) (by omega) (by omega) (by omega) (by omega), f62 62 36 (by omega) (by omega) (by omega) (by omega) (by omega) (by omega), f62 62 37 (by omega) (by omega) (by omega) (by omega) (by omega) (by omega)]
    exact ⟨rfl, sc.2⟩
theorem s_laws : s_Stp 70 111 [] := by
  intro d sw gc I J h
  cases sw with
  | false => exact s_laws_b (nsw := true) h rfl rfl (Or.inl ⟨rfl, rfl⟩) (@fun _ hl hl2 _ _ hR => x_laws_false (d := d + 3) hl hl2 hR)
  | true => exact s_laws_b (nsw := false) h rfl rfl (Or.inr ⟨rfl, rfl⟩) (@fun _ hl hl2 _ _ hR => x_laws_true (d := d + 3) hl hl2 hR)
