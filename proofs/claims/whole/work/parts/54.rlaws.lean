theorem t_e_fp (t : Nat → Int32) (q : Nat) : t_e t q = 0 ∨ 0 < t_e t q := by
  unfold t_e
  have hb : ∀ b : Bool, q_b b = 0 ∨ 0 < q_b b := by intro b; cases b <;> decide
  split
  · exact Or.inl rfl
  · split
    · exact hb _
    · split
      · exact hb _
      · split <;> decide
theorem t_fin_fp {t : Nat → Int32} {s : t_S} {D D2 : t_D} : (t_fin t s D D2).1 = 0 ∨ 0 < (t_fin t s D D2).1 := by
  unfold t_fin
  split
  · split
    · exact Or.inl rfl
    · exact Or.inr (show (0 : Int32) < 2 by decide)
  · exact t_e_fp t _
theorem t_lawP_fp {t : Nat → Int32} {s : t_S} {D : t_D} : (t_lawP t D s).1 = 0 ∨ 0 < (t_lawP t D s).1 := by
  unfold t_lawP
  split
  · split
    · split
      · split
        · exact t_fin_fp
        · exact Or.inr (show (0 : Int32) < 3 by decide)
      · exact Or.inr (show (0 : Int32) < 2 by decide)
    · exact t_e_fp t _
  · exact Or.inr (show (0 : Int32) < 5 by decide)
theorem t_law_fp {t : Nat → Int32} {s : t_S} {D : t_D} : (t_law t D s).1 = 0 ∨ 0 < (t_law t D s).1 := by
  unfold t_law
  split
  · split
    · unfold t_lawN
      split
      · split
        · split
          · split
            · exact t_lawP_fp
            · exact t_fin_fp
          · exact Or.inr (show (0 : Int32) < 3 by decide)
        · exact Or.inr (show (0 : Int32) < 2 by decide)
      · exact t_e_fp t _
    · exact Or.inr (show (0 : Int32) < 4 by decide)
  · exact Or.inr (show (0 : Int32) < 2 by decide)
theorem t_tok_ge (t : Nat → Int32) (s : t_S) : s.1 ≤ (t_tok t s).1 := Nat.le_trans (t_q_le t s.1).1 (t_n_le t _).1
theorem t_fin_ge {t : Nat → Int32} {s : t_S} {D D2 : t_D} : s.1 ≤ (t_fin t s D D2).2.1.1 := by
  unfold t_fin
  split
  · split
    · exact t_tok_ge t s
    · exact t_tok_ge t s
  · exact t_tok_ge t s
theorem t_lawP_ge {t : Nat → Int32} {s : t_S} {D : t_D} : s.1 ≤ (t_lawP t D s).2.1.1 := by
  unfold t_lawP
  split
  · split
    · split
      · split
        · exact Nat.le_trans (t_tok_ge t s) t_fin_ge
        · exact t_tok_ge t s
      · exact t_tok_ge t s
    · exact t_tok_ge t s
  · exact Nat.le_refl _
theorem t_law_ge {t : Nat → Int32} {s : t_S} {D : t_D} : s.1 ≤ (t_law t D s).2.1.1 := by
  unfold t_law
  split
  · split
    · unfold t_lawN
      split
      · split
        · split
          · split
            · exact Nat.le_trans (t_tok_ge t s) t_lawP_ge
            · exact Nat.le_trans (t_tok_ge t s) t_fin_ge
          · exact t_tok_ge t s
        · exact t_tok_ge t s
      · exact t_tok_ge t s
    · exact Nat.le_refl _
  · exact Nat.le_refl _
theorem t_n_gt {t : Nat → Int32} {q : Nat} (h : ¬ t q = -1) : q < t_n t q := by
  unfold t_n
  rw [if_neg h]
  by_cases h1 : q_isL (t q) = true
  · rw [if_pos h1, show q_run q_isL t 200 q = q_run q_isL t 199 (q + 1) by rw [q_run, h1]; rfl]
    exact (q_run_ge q_isL t 199 (q + 1)).1
  · rw [if_neg h1]
    by_cases h2 : q_isF (t q) = true
    · rw [if_pos h2, show q_run q_isF t 200 q = q_run q_isF t 199 (q + 1) by rw [q_run, h2]; rfl]
      exact (q_run_ge q_isF t 199 (q + 1)).1
    · rw [if_neg h2]; omega
theorem t_k_nz {t : Nat → Int32} {q : Nat} (h : ¬ t_k (t q) = 0) : ¬ t q = -1 := by
  intro e
  exact h (by rw [t_k, if_pos e])
/-- where a token stands, it stands within the text, and the next begins behind it -/
def t_pg (l : Nat) (x : Int32 × t_S × t_D) : Prop := x.1 = 0 → ¬ x.2.1.2.1 = 0 → x.2.1.2.2.2 < l ∧ x.2.1.2.2.2 < x.2.1.1
theorem t_pg_tok {t : Nat → Int32} {l : Nat} (ht : t_end t l) {s : t_S} {f : Int32} {D : t_D} : t_pg l (f, t_tok t s, D) := by
  intro _ h
  have h1 : ¬ t (t_q t s.1) = -1 := t_k_nz h
  refine ⟨?_, t_n_gt h1⟩
  rcases Nat.lt_or_ge (t_q t s.1) l with h2 | h2
  · exact h2
  · exact absurd (ht _ h2) h1
theorem r_wA {d : Nat} {sw : Bool} {gc : Nat} {I : Nat → Nat → Int32} {J : Nat → Nat → Int64} {Iz : Nat → Nat → Int32} {r : Option Value} {a b s v f e : Int32} (hf : ¬ f = 0) (g : G (d + 6) 111 (61, [some (.ref 62), none], [], qS sw gc (r_R I a b s v f e) J) r (qS sw gc Iz J)) : G (d + 6) 111 (40, [some (.ref 62), none], [], qS sw gc (r_R I a b s v f e) J) r (qS sw gc Iz J) := by
  refine G_st (L := 89) (k := 2) (44, [some (.ref 62), none], [.int f], qS sw gc (r_R I a b s v f e) J) (q_hn _ _ _ _) rfl ?_
  refine G_if_ne 61 rfl rfl (fun _ => ?_) (fun h9 => absurd h9 hf)
  exact g
theorem r_wB {d : Nat} {sw : Bool} {gc : Nat} {I : Nat → Nat → Int32} {J : Nat → Nat → Int64} {Iz : Nat → Nat → Int32} {r : Option Value} {a b v e : Int32} (g : G (d + 6) 111 (61, [some (.ref 62), none], [], qS sw gc (r_R I a b 0 v 0 e) J) r (qS sw gc Iz J)) : G (d + 6) 111 (40, [some (.ref 62), none], [], qS sw gc (r_R I a b 0 v 0 e) J) r (qS sw gc Iz J) := by
  refine G_st (L := 89) (k := 2) (44, [some (.ref 62), none], [.int 0], qS sw gc (r_R I a b 0 v 0 e) J) (q_hn _ _ _ _) rfl ?_
  refine G_if_ne 61 rfl rfl (fun h9 => absurd h9 (by decide)) (fun _ => ?_)
  refine G_st (L := 89) (k := 2) (51, [some (.ref 62), none], [.int 0], qS sw gc (r_R I a b 0 v 0 e) J) (q_hn _ _ _ _) rfl ?_
  refine G_if_eq 61 rfl rfl (fun _ => ?_) (fun h9 => absurd h9 (by decide))
  exact g
theorem r_wC {d : Nat} {sw : Bool} {gc : Nat} {I : Nat → Nat → Int32} {J : Nat → Nat → Int64} {Iz : Nat → Nat → Int32} {r : Option Value} {I1 : Nat → Nat → Int32} {a b s v e : Int32} (hs : ¬ s = 0) (h1 : GM (d + 5) 109 [.ref 62] (qS sw gc (r_R I a b s v 0 e) J) none (qS sw gc I1 J)) (g : G (d + 6) 111 (40, [some (.ref 62), none], [], qS sw gc I1 J) r (qS sw gc Iz J)) : G (d + 6) 111 (40, [some (.ref 62), none], [], qS sw gc (r_R I a b s v 0 e) J) r (qS sw gc Iz J) := by
  refine G_st (L := 89) (k := 2) (44, [some (.ref 62), none], [.int 0], qS sw gc (r_R I a b s v 0 e) J) (q_hn _ _ _ _) rfl ?_
  refine G_if_ne 61 rfl rfl (fun h9 => absurd h9 (by decide)) (fun _ => ?_)
  refine G_st (L := 89) (k := 2) (51, [some (.ref 62), none], [.int s], qS sw gc (r_R I a b s v 0 e) J) (q_hn _ _ _ _) rfl ?_
  refine G_if_eq 61 rfl rfl (fun h9 => absurd h9 hs) (fun _ => ?_)
  refine G_st (L := 89) (k := 1) (55, [some (.ref 62), none], [.ref 62], qS sw gc (r_R I a b s v 0 e) J) (q_hn _ _ _ _) rfl ?_
  refine G_callV (b := 62) (ci := 9) (as := []) (rest := []) rfl rfl rfl (q_lt (by decide)) (by decide) rfl rfl (Nat.le_of_ble_eq_true rfl) h1 x_out_n ?_
  refine G_st (L := 89) (k := 1) (40, [some (.ref 62), none], [], qS sw gc I1 J) (q_hn _ _ _ _) rfl ?_
  exact g
theorem r_w_loop {d : Nat} {sw : Bool} {gc : Nat} {J : Nat → Nat → Int64} {t : Nat → Int32} {l : Nat} : ∀ (n : Nat) (x : Int32 × t_S × t_D) (I : Nat → Nat → Int32) (A B S V f W : Int32), r_Tp I t l → t_ok l x → t_pg l x → r_Po I I A B S V f W x → (x.1 = 0 → l ≤ x.2.1.2.2.2 + n) → ∃ I2 A2 B2 S2 V2 f2 W2, (∀ (r : Option Value) (Iz : Nat → Nat → Int32), G (d + 6) 111 (61, [some (.ref 62), none], [], qS sw gc (r_R I2 A2 B2 S2 V2 f2 W2) J) r (qS sw gc Iz J) → G (d + 6) 111 (40, [some (.ref 62), none], [], qS sw gc (r_R I A B S V f W) J) r (qS sw gc Iz J)) ∧ r_Po I I2 A2 B2 S2 V2 f2 W2 (t_read t n x) := by
  intro n
  induction n with
  | zero =>
    intro x I A B S V f W hT hx hpg hP hm
    refine ⟨I, A, B, S, V, f, W, ?_, hP⟩
    intro r Iz g
    by_cases h1 : x.1 = 0
    · obtain ⟨h2, h3, h4, h5, h6⟩ := hP.2.1 h1
      have hk : x.2.1.2.1 = 0 := by
        by_cases h7 : x.2.1.2.1 = 0
        · exact h7
        · have := hpg h1 h7; have := hm h1; omega
      have ef : f = 0 := hP.1.trans h1
      rw [h4, hk, ef] at g ⊢
      exact r_wB g
    · exact r_wA (fun e => h1 (hP.1 ▸ e)) g
  | succ n ih =>
    intro x I A B S V f W hT hx hpg hP hm
    unfold t_read
    by_cases h1 : x.1 = 0
    · rw [if_pos h1]
      obtain ⟨h2, h3, h4, h5, h6⟩ := hP.2.1 h1
      have ef : f = 0 := hP.1.trans h1
      by_cases hk : x.2.1.2.1 = 0
      · rw [if_pos hk]
        refine ⟨I, A, B, S, V, f, W, ?_, hP⟩
        intro r Iz g
        rw [h4, hk, ef] at g ⊢
        exact r_wB g
      · rw [if_neg hk]
        obtain ⟨I1, A1, B1, S1, V1, f1, W1, g1, hP1⟩ := r_readLaw (d := d) (sw := sw) (gc := gc) (J := J) hT hx.1 (hx.2.2 h1) hx.2.1 h6 (e := W)
        have hT1 : r_Tp I1 t l := by
          refine ⟨(hP1.2.2.2 62 1 (by omega) (by omega)).trans hT.1, hT.2.1, fun p hp => ?_, hT.2.2.2⟩
          rw [hP1.2.2.2 63 p (by omega) (by omega)]
          exact hT.2.2.1 p hp
        have hst : t_step t x = t_nx t (t_law t x.2.2 x.2.1) := rfl
        have hpq := hpg h1 hk
        have hm1 := hm h1
        have hpg2 : t_pg l (t_step t x) ∧ ((t_step t x).1 = 0 → x.2.1.2.2.2 < (t_step t x).2.1.2.2.2) := by
          unfold t_step
          by_cases h7 : (t_law t x.2.2 x.2.1).1 = 0
          · rw [if_pos h7]
            refine ⟨t_pg_tok hT.2.2.2, fun _ => ?_⟩
            have h8 := t_law_ge (t := t) (D := x.2.2) (s := x.2.1)
            have h9 := (t_q_le t (t_law t x.2.2 x.2.1).2.1.1).1
            show x.2.1.2.2.2 < t_q t (t_law t x.2.2 x.2.1).2.1.1
            omega
          · rw [if_neg h7]
            exact ⟨fun e => absurd e h7, fun e => absurd e h7⟩
        rw [← hst] at hP1
        obtain ⟨I2, A2, B2, S2, V2, f2, W2, g2, hP2⟩ := ih (t_step t x) I1 A1 B1 S1 V1 f1 W1 hT1 (t_step_ok hT.2.2.2 hx) hpg2.1 ⟨hP1.1, hP1.2.1, hP1.2.2.1, r_fr_id⟩ (fun e => by have := hpg2.2 e; omega)
        refine ⟨I2, A2, B2, S2, V2, f2, W2, ?_, hP2.1, hP2.2.1, hP2.2.2.1, r_fr_tr hP1.2.2.2 hP2.2.2.2⟩
        intro r Iz g
        rw [h2, h3, h4, h5, ef]
        exact r_wC (fun e => hk ((nI_eq (b := 0) (by have := hx.2.1; omega) (by decide)).mp e)) g1 (g2 r Iz g)
    · rw [if_neg h1]
      refine ⟨I, A, B, S, V, f, W, ?_, hP⟩
      intro r Iz g
      exact r_wA (fun e => h1 (hP.1 ▸ e)) g
