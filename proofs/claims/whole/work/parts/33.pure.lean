theorem q_alc (a b c : Int32) : a + (b + c) = b + (a + c) := by
  rw [← Int32.add_assoc, Int32.add_comm a b, Int32.add_assoc]
abbrev t_S := Nat × Nat × Int32 × Nat
abbrev t_D := (Nat → Int32) × Nat × (Nat → Int32) × (Nat → Int32)
def t_tok (t : Nat → Int32) (s : t_S) : t_S := (t_n t (t_q t s.1), t_k (t (t_q t s.1)), t_v t (t_q t s.1) s.2.2.1, t_q t s.1)
def t_er (t : Nat → Int32) (s : t_S) : Int32 := t_e t (t_q t s.1)
def t_may (D : t_D) (v : Int32) : Bool := if v.toNatClampNeg < 4 then decide (D.1 v.toNatClampNeg = -4) else decide (D.2.1 < 4)
def t_abv (D : t_D) (n : Int32) : Bool := if D.2.1 = 0 then true else !decide (n ≤ D.2.2.1 (D.2.1 - 1))
def t_addN (D : t_D) (v n : Int32) : t_D := (fun i => if i = v.toNatClampNeg then n else D.1 i, D.2)
def t_addP (D : t_D) (n w : Int32) : t_D := (D.1, D.2.1 + 1, (fun i => if i = D.2.1 then n else D.2.2.1 i), (fun i => if i = D.2.1 then w else D.2.2.2 i))
def t_fin (t : Nat → Int32) (s : t_S) (D D2 : t_D) : Int32 × t_S × t_D := if t_er t s = 0 then (if (t_tok t s).2.1 = 3 then (0, t_tok t s, D2) else (2, t_tok t s, D)) else (t_er t s, t_tok t s, D)
def t_lawP (t : Nat → Int32) (D : t_D) (a : t_S) : Int32 × t_S × t_D := if t_abv D a.2.2.1 = true then (if t_er t a = 0 then (if (t_tok t a).2.1 = 2 then (if f_isPoundage (t_tok t a).2.2.1 = 1 then t_fin t (t_tok t a) D (t_addP D a.2.2.1 (t_tok t a).2.2.1) else (3, t_tok t a, D)) else (2, t_tok t a, D)) else (t_er t a, t_tok t a, D)) else (5, a, D)
def t_lawN (t : Nat → Int32) (D : t_D) (v : Int32) (a : t_S) : Int32 × t_S × t_D := if t_er t a = 0 then (if (t_tok t a).2.1 = 2 then (if f_inb v (t_tok t a).2.2.1 = 1 then (if v = 4 then t_lawP t D (t_tok t a) else t_fin t (t_tok t a) D (t_addN D v (t_tok t a).2.2.1)) else (3, t_tok t a, D)) else (2, t_tok t a, D)) else (t_er t a, t_tok t a, D)
def t_law (t : Nat → Int32) (D : t_D) (s : t_S) : Int32 × t_S × t_D := if s.2.1 = 1 then (if t_may D s.2.2.1 = true then t_lawN t D s.2.2.1 s else (4, s, D)) else (2, s, D)
def y_R (I : Nat → Nat → Int32) (s : t_S) (f : Int32) : Nat → Nat → Int32 := x_R I (nI s.1) (nI s.2.1) s.2.2.1 f (nI s.2.2.2)
def t_ct (f : Nat → Int32) (k : Nat) : Int32 := if f k = -4 then 0 else 1
def t_tot (D : t_D) : Int32 := nI D.2.1 + t_ct D.1 0 + t_ct D.1 1 + t_ct D.1 2 + t_ct D.1 3
def x_Dr (b : Nat) (I : Nat → Nat → Int32) (D : t_D) : Prop :=
  (∀ k, k < 4 → (D.1 k = -4 ∧ I (b + 2) k = 0 ∧ I (b + 1) k = [(-4 : Int32), -4, 0, 0].getD k 0) ∨ (¬ D.1 k = -4 ∧ I (b + 2) k = 1 ∧ I (b + 1) k = D.1 k)) ∧
  (I b 4 = nI D.2.1 ∧ D.2.1 ≤ 4 ∧ (∀ j, j < D.2.1 → I (b + 3) j = D.2.2.1 j ∧ I (b + 4) j = D.2.2.2 j) ∧ I b 5 = t_tot D)
def x_fr (b : Nat) (I I2 : Nat → Nat → Int32) : Prop := ∀ i j, ¬ (b ≤ i ∧ i ≤ b + 4) → I2 i j = I i j
def t_end (t : Nat → Int32) (l : Nat) : Prop := ∀ p, l ≤ p → t p = -1
theorem x_T_end {I : Nat → Nat → Int32} {l : Nat} (hl : I 2 1 = nI l) (hl2 : l ≤ 200) : t_end (x_T I) l := by
  intro p hp
  unfold x_T
  rw [hl, q_clamp (by omega), if_neg (by omega)]
theorem q_run_l {f : Int32 → Bool} {t : Nat → Int32} {l : Nat} (ht : t_end t l) (hf : f (-1) = false) : ∀ n p, p ≤ l → q_run f t n p ≤ l
  | 0, p, h => h
  | n + 1, p, h => by
    unfold q_run
    cases hc : f (t p) with
    | false => exact h
    | true =>
      have : p < l := by
        rcases Nat.lt_or_ge p l with h1 | h1
        · exact h1
        · rw [ht p h1, hf] at hc; exact absurd hc (by decide)
      exact q_run_l ht hf n (p + 1) this
theorem t_q_l {t : Nat → Int32} {l p : Nat} (ht : t_end t l) (h : p ≤ l) : t_q t p ≤ l := q_run_l ht rfl 200 p h
theorem t_n_l {t : Nat → Int32} {l q : Nat} (ht : t_end t l) (h : q ≤ l) : t_n t q ≤ l := by
  unfold t_n
  split
  · exact h
  · rename_i h1
    split
    · exact q_run_l ht rfl 200 q h
    · split
      · exact q_run_l ht rfl 200 q h
      · rcases Nat.lt_or_ge q l with h2 | h2
        · exact h2
        · exact absurd (ht q h2) h1
theorem t_tok_l {t : Nat → Int32} {l : Nat} {s : t_S} (ht : t_end t l) (h : s.1 ≤ l) : (t_tok t s).1 ≤ l := t_n_l ht (t_q_l ht h)
theorem t_w0_in (t : Nat → Int32) (q n : Nat) : t_w0 t q n (-4) = -4 ∨ ∃ j, j < 5 ∧ t_w0 t q n (-4) = nI j := by
  unfold t_w0 t_w1 t_w2 t_w3 t_w4 t_w5
  cases t_nm4 t q n with
  | true => exact Or.inr ⟨4, by decide, rfl⟩
  | false =>
    cases t_nm3 t q n with
    | true => exact Or.inr ⟨3, by decide, rfl⟩
    | false =>
      cases t_nm2 t q n with
      | true => exact Or.inr ⟨2, by decide, rfl⟩
      | false =>
        cases t_nm1 t q n with
        | true => exact Or.inr ⟨1, by decide, rfl⟩
        | false =>
          cases t_nm0 t q n with
          | true => exact Or.inr ⟨0, by decide, rfl⟩
          | false => exact Or.inl rfl
theorem t_tok_name {t : Nat → Int32} {s : t_S} (h : t_er t s = 0) (hk : (t_tok t s).2.1 = 1) : ∃ j, j < 5 ∧ (t_tok t s).2.2.1 = nI j := by
  unfold t_er t_e at h
  unfold t_tok t_k at hk
  unfold t_tok t_v
  show ∃ j, j < 5 ∧ (if t (t_q t s.1) = -1 then s.2.2.1 else _) = nI j
  by_cases h1 : t (t_q t s.1) = -1
  · simp only [if_pos h1] at hk; exact absurd hk (by decide)
  · simp only [if_neg h1] at hk h ⊢
    by_cases h2 : q_isL (t (t_q t s.1)) = true
    · simp only [if_pos h2] at hk h ⊢
      rcases t_w0_in t (t_q t s.1) (q_run q_isL t 200 (t_q t s.1)) with h3 | h3
      · rw [h3] at h; exact absurd h (by decide)
      · exact h3
    · simp only [if_neg h2] at hk
      by_cases h3 : q_isF (t (t_q t s.1)) = true
      · simp only [if_pos h3] at hk; exact absurd hk (by decide)
      · simp only [if_neg h3] at hk; exact absurd hk (by decide)
theorem f_inb_lo {k v : Int32} (h : f_inb k v = 1) : ¬ v = -4 := by
  intro e
  subst e
  unfold f_inb at h
  split at h
  · exact absurd h (by decide)
  · rename_i h1
    split at h
    · exact absurd h (by decide)
    · rename_i h2
      have h5 := q_in5 h1 h2
      rcases q_ix k (n := 5) (by decide) with ⟨j, hj, rfl⟩ | h6 | h6
      · rw [q_clamp (by omega)] at h
        have : j = 0 ∨ j = 1 ∨ j = 2 ∨ j = 3 ∨ j = 4 := by omega
        rcases this with rfl | rfl | rfl | rfl | rfl <;> exact absurd h (by decide)
      · exact h1 h6
      · exact h2 (by rw [q_le_int] at h6; rw [q_lt_int]; have e0 : (nI 5).toInt = 5 := rfl; have e4 : (4 : Int32).toInt = 4 := rfl; omega)
theorem x_Dr_mt4 {I : Nat → Nat → Int32} {D : t_D} {v : Int32} {j : Nat} (hD : x_Dr 4 I D) (hj : j < 5) (hv : v = nI j) : f_mt4 I v = q_b (t_may D v) := by
  subst hv
  unfold f_mt4 t_may
  rw [q_clamp (by omega)]
  by_cases h : j < 4
  · rw [f_isNumberLaw_in h, if_neg (by decide), if_pos h]
    rcases hD.1 j h with ⟨h1, h2, _⟩ | ⟨h1, h2, _⟩
    · rw [show I 6 j = 0 from h2, h1]; rfl
    · rw [show I 6 j = 1 from h2, decide_eq_false h1]; rfl
  · obtain rfl : j = 4 := by omega
    rw [show f_isNumberLaw (nI 4) = 0 by decide, if_pos rfl, if_neg h, show I 4 4 = nI D.2.1 from hD.2.1]
    have hc : D.2.1 ≤ 4 := hD.2.2.1
    by_cases h2 : D.2.1 < 4
    · rw [if_neg (show ¬ (4 : Int32) ≤ nI D.2.1 from nI_ge (b := 4) (by omega) (by decide)), decide_eq_true h2]; rfl
    · rw [if_pos (show (4 : Int32) ≤ nI D.2.1 from nI_le (a := 4) (by omega) (by omega)), decide_eq_false h2]; rfl
theorem x_Dr_ab4 {I : Nat → Nat → Int32} {D : t_D} {n : Int32} (hD : x_Dr 4 I D) : f_ab4 I n = q_b (t_abv D n) := by
  unfold f_ab4 t_abv
  have hc : D.2.1 ≤ 4 := hD.2.2.1
  rw [show I 4 4 = nI D.2.1 from hD.2.1]
  by_cases h : D.2.1 = 0
  · rw [h, if_pos (by decide), if_pos rfl]; rfl
  · rw [if_neg (show ¬ nI D.2.1 < 1 from nI_nlt (b := 1) (by omega) (by omega)), if_neg (show ¬ 4 < nI D.2.1 from nI_nlt (a := 4) (by omega) (by decide)), if_neg h, show nI D.2.1 - 1 = nI (D.2.1 - 1) from q_subP rfl rfl (by omega), q_clamp (by omega), show I 7 (D.2.1 - 1) = D.2.2.1 (D.2.1 - 1) from (hD.2.2.2.1 _ (by omega)).1]
    by_cases h2 : n ≤ D.2.2.1 (D.2.1 - 1)
    · rw [if_pos h2, decide_eq_true h2]; rfl
    · rw [if_neg h2, decide_eq_false h2]; rfl
theorem x_tel_fr4 {I : Nat → Nat → Int32} {k : Nat} {v : Int32} : x_fr 4 I (x_tel4 I k v) := by
  intro i j h
  unfold x_tel4
  rw [q_un _ _ (by omega), q_un _ _ (by omega), q_un _ _ (by omega)]
theorem x_telP_fr4 {I : Nat → Nat → Int32} {c : Nat} {v w : Int32} : x_fr 4 I (x_telP4 I c v w) := by
  intro i j h
  unfold x_telP4
  rw [q_un _ _ (by omega), q_un _ _ (by omega), q_un _ _ (by omega), q_un _ _ (by omega)]
theorem x_tel_R4 {I : Nat → Nat → Int32} {a b c d e : Int32} {k : Nat} {v : Int32} : x_tel4 (x_R I a b c d e) k v = x_R (x_tel4 I k v) a b c d e := by
  unfold x_tel4
  rw [x_R_un (by omega), x_R_cm (by decide), x_R_cm (by decide), x_R_cm (by decide)]
theorem x_telP_R4 {I : Nat → Nat → Int32} {a b c d e : Int32} {k : Nat} {v w : Int32} : x_telP4 (x_R I a b c d e) k v w = x_R (x_telP4 I k v w) a b c d e := by
  unfold x_telP4
  rw [x_R_un (by omega), x_R_cm (by decide), x_R_cm (by decide), x_R_cm (by decide), x_R_cm (by decide)]
theorem x_tel_Dr4 {I : Nat → Nat → Int32} {D : t_D} {k : Nat} {v : Int32} (hD : x_Dr 4 I D) (hk : k < 4) (hu : D.1 k = -4) (hv : ¬ v = -4) : x_Dr 4 (x_tel4 I k v) (t_addN D (nI k) v) := by
  unfold t_addN
  rw [q_clamp (by omega)]
  refine ⟨?_, ?_, hD.2.2.1, ?_, ?_⟩
  · intro i hi
    unfold x_tel4
    show ((if i = k then v else D.1 i) = -4 ∧ _) ∨ (¬ (if i = k then v else D.1 i) = -4 ∧ _ ∧ _ = (if i = k then v else D.1 i))
    by_cases h : i = k
    · subst h
      rw [if_pos rfl]
      refine Or.inr ⟨hv, ?_, ?_⟩
      · rw [q_un _ _ (by omega), q_us]
      · rw [q_un _ _ (by omega), q_un _ _ (by omega), q_us]
    · rw [if_neg h, q_un _ _ (by omega), q_un _ _ (by omega), q_un _ _ (by omega), q_un _ _ (by omega), q_un _ _ (by omega), q_un _ _ (by omega)]
      exact hD.1 i hi
  · unfold x_tel4
    rw [q_un _ _ (by omega), q_un _ _ (by omega), q_un _ _ (by omega)]; exact hD.2.1
  · intro j hj
    unfold x_tel4
    rw [q_un _ _ (by omega), q_un _ _ (by omega), q_un _ _ (by omega), q_un _ _ (by omega), q_un _ _ (by omega), q_un _ _ (by omega)]
    exact hD.2.2.2.1 j hj
  · unfold x_tel4
    rw [q_us, show I 4 5 = t_tot D from hD.2.2.2.2]
    unfold t_tot t_ct
    have : k = 0 ∨ k = 1 ∨ k = 2 ∨ k = 3 := by omega
    rcases this with rfl | rfl | rfl | rfl <;> simp [hu, hv, Int32.add_assoc, Int32.add_comm, q_alc]
theorem x_telP_Dr4 {I : Nat → Nat → Int32} {D : t_D} {v w : Int32} (hD : x_Dr 4 I D) (hc : D.2.1 < 4) : x_Dr 4 (x_telP4 I D.2.1 v w) (t_addP D v w) := by
  unfold t_addP
  refine ⟨?_, ?_, hc, ?_, ?_⟩
  · intro i hi
    unfold x_telP4
    rw [q_un _ _ (by omega), q_un _ _ (by omega), q_un _ _ (by omega), q_un _ _ (by omega), q_un _ _ (by omega), q_un _ _ (by omega), q_un _ _ (by omega), q_un _ _ (by omega)]
    exact hD.1 i hi
  · unfold x_telP4
    rw [q_un _ _ (by omega), q_us]
  · intro j hj
    have hj : j < D.2.1 + 1 := hj
    unfold x_telP4
    show _ = (if j = D.2.1 then v else D.2.2.1 j) ∧ _ = (if j = D.2.1 then w else D.2.2.2 j)
    by_cases h : j = D.2.1
    · subst h
      rw [if_pos rfl, if_pos rfl, q_un _ _ (by omega), q_un _ _ (by omega), q_un _ _ (by omega), q_us, q_un _ _ (by omega), q_un _ _ (by omega), q_us]
      exact ⟨rfl, rfl⟩
    · rw [if_neg h, if_neg h, q_un _ _ (by omega), q_un _ _ (by omega), q_un _ _ (by omega), q_un _ _ (by omega), q_un _ _ (by omega), q_un _ _ (by omega), q_un _ _ (by omega), q_un _ _ (by omega)]
      exact hD.2.2.2.1 j (by omega)
  · unfold x_telP4
    rw [q_us, show I 4 5 = t_tot D from hD.2.2.2.2]
    unfold t_tot
    show _ = nI (D.2.1 + 1) + _ + _ + _ + _
    rw [show nI (D.2.1 + 1) = nI D.2.1 + 1 from (q_addP rfl rfl).symm]
    simp [Int32.add_assoc, Int32.add_comm, q_alc]
theorem x_Dr_mt9 {I : Nat → Nat → Int32} {D : t_D} {v : Int32} {j : Nat} (hD : x_Dr 9 I D) (hj : j < 5) (hv : v = nI j) : f_mt9 I v = q_b (t_may D v) := by
  subst hv
  unfold f_mt9 t_may
  rw [q_clamp (by omega)]
  by_cases h : j < 4
  · rw [f_isNumberLaw_in h, if_neg (by decide), if_pos h]
    rcases hD.1 j h with ⟨h1, h2, _⟩ | ⟨h1, h2, _⟩
    · rw [show I 11 j = 0 from h2, h1]; rfl
    · rw [show I 11 j = 1 from h2, decide_eq_false h1]; rfl
  · obtain rfl : j = 4 := by omega
    rw [show f_isNumberLaw (nI 4) = 0 by decide, if_pos rfl, if_neg h, show I 9 4 = nI D.2.1 from hD.2.1]
    have hc : D.2.1 ≤ 4 := hD.2.2.1
    by_cases h2 : D.2.1 < 4
    · rw [if_neg (show ¬ (4 : Int32) ≤ nI D.2.1 from nI_ge (b := 4) (by omega) (by decide)), decide_eq_true h2]; rfl
    · rw [if_pos (show (4 : Int32) ≤ nI D.2.1 from nI_le (a := 4) (by omega) (by omega)), decide_eq_false h2]; rfl
theorem x_Dr_ab9 {I : Nat → Nat → Int32} {D : t_D} {n : Int32} (hD : x_Dr 9 I D) : f_ab9 I n = q_b (t_abv D n) := by
  unfold f_ab9 t_abv
  have hc : D.2.1 ≤ 4 := hD.2.2.1
  rw [show I 9 4 = nI D.2.1 from hD.2.1]
  by_cases h : D.2.1 = 0
  · rw [h, if_pos (by decide), if_pos rfl]; rfl
  · rw [if_neg (show ¬ nI D.2.1 < 1 from nI_nlt (b := 1) (by omega) (by omega)), if_neg (show ¬ 4 < nI D.2.1 from nI_nlt (a := 4) (by omega) (by decide)), if_neg h, show nI D.2.1 - 1 = nI (D.2.1 - 1) from q_subP rfl rfl (by omega), q_clamp (by omega), show I 12 (D.2.1 - 1) = D.2.2.1 (D.2.1 - 1) from (hD.2.2.2.1 _ (by omega)).1]
    by_cases h2 : n ≤ D.2.2.1 (D.2.1 - 1)
    · rw [if_pos h2, decide_eq_true h2]; rfl
    · rw [if_neg h2, decide_eq_false h2]; rfl
theorem x_tel_fr9 {I : Nat → Nat → Int32} {k : Nat} {v : Int32} : x_fr 9 I (x_tel9 I k v) := by
  intro i j h
  unfold x_tel9
  rw [q_un _ _ (by omega), q_un _ _ (by omega), q_un _ _ (by omega)]
theorem x_telP_fr9 {I : Nat → Nat → Int32} {c : Nat} {v w : Int32} : x_fr 9 I (x_telP9 I c v w) := by
  intro i j h
  unfold x_telP9
  rw [q_un _ _ (by omega), q_un _ _ (by omega), q_un _ _ (by omega), q_un _ _ (by omega)]
theorem x_tel_R9 {I : Nat → Nat → Int32} {a b c d e : Int32} {k : Nat} {v : Int32} : x_tel9 (x_R I a b c d e) k v = x_R (x_tel9 I k v) a b c d e := by
  unfold x_tel9
  rw [x_R_un (by omega), x_R_cm (by decide), x_R_cm (by decide), x_R_cm (by decide)]
theorem x_telP_R9 {I : Nat → Nat → Int32} {a b c d e : Int32} {k : Nat} {v w : Int32} : x_telP9 (x_R I a b c d e) k v w = x_R (x_telP9 I k v w) a b c d e := by
  unfold x_telP9
  rw [x_R_un (by omega), x_R_cm (by decide), x_R_cm (by decide), x_R_cm (by decide), x_R_cm (by decide)]
theorem x_tel_Dr9 {I : Nat → Nat → Int32} {D : t_D} {k : Nat} {v : Int32} (hD : x_Dr 9 I D) (hk : k < 4) (hu : D.1 k = -4) (hv : ¬ v = -4) : x_Dr 9 (x_tel9 I k v) (t_addN D (nI k) v) := by
  unfold t_addN
  rw [q_clamp (by omega)]
  refine ⟨?_, ?_, hD.2.2.1, ?_, ?_⟩
  · intro i hi
    unfold x_tel9
    show ((if i = k then v else D.1 i) = -4 ∧ _) ∨ (¬ (if i = k then v else D.1 i) = -4 ∧ _ ∧ _ = (if i = k then v else D.1 i))
    by_cases h : i = k
    · subst h
      rw [if_pos rfl]
      refine Or.inr ⟨hv, ?_, ?_⟩
      · rw [q_un _ _ (by omega), q_us]
      · rw [q_un _ _ (by omega), q_un _ _ (by omega), q_us]
    · rw [if_neg h, q_un _ _ (by omega), q_un _ _ (by omega), q_un _ _ (by omega), q_un _ _ (by omega), q_un _ _ (by omega), q_un _ _ (by omega)]
      exact hD.1 i hi
  · unfold x_tel9
    rw [q_un _ _ (by omega), q_un _ _ (by omega), q_un _ _ (by omega)]; exact hD.2.1
  · intro j hj
    unfold x_tel9
    rw [q_un _ _ (by omega), q_un _ _ (by omega), q_un _ _ (by omega), q_un _ _ (by omega), q_un _ _ (by omega), q_un _ _ (by omega)]
    exact hD.2.2.2.1 j hj
  · unfold x_tel9
    rw [q_us, show I 9 5 = t_tot D from hD.2.2.2.2]
    unfold t_tot t_ct
    have : k = 0 ∨ k = 1 ∨ k = 2 ∨ k = 3 := by omega
    rcases this with rfl | rfl | rfl | rfl <;> simp [hu, hv, Int32.add_assoc, Int32.add_comm, q_alc]
theorem x_telP_Dr9 {I : Nat → Nat → Int32} {D : t_D} {v w : Int32} (hD : x_Dr 9 I D) (hc : D.2.1 < 4) : x_Dr 9 (x_telP9 I D.2.1 v w) (t_addP D v w) := by
  unfold t_addP
  refine ⟨?_, ?_, hc, ?_, ?_⟩
  · intro i hi
    unfold x_telP9
    rw [q_un _ _ (by omega), q_un _ _ (by omega), q_un _ _ (by omega), q_un _ _ (by omega), q_un _ _ (by omega), q_un _ _ (by omega), q_un _ _ (by omega), q_un _ _ (by omega)]
    exact hD.1 i hi
  · unfold x_telP9
    rw [q_un _ _ (by omega), q_us]
  · intro j hj
    have hj : j < D.2.1 + 1 := hj
    unfold x_telP9
    show _ = (if j = D.2.1 then v else D.2.2.1 j) ∧ _ = (if j = D.2.1 then w else D.2.2.2 j)
    by_cases h : j = D.2.1
    · subst h
      rw [if_pos rfl, if_pos rfl, q_un _ _ (by omega), q_un _ _ (by omega), q_un _ _ (by omega), q_us, q_un _ _ (by omega), q_un _ _ (by omega), q_us]
      exact ⟨rfl, rfl⟩
    · rw [if_neg h, if_neg h, q_un _ _ (by omega), q_un _ _ (by omega), q_un _ _ (by omega), q_un _ _ (by omega), q_un _ _ (by omega), q_un _ _ (by omega), q_un _ _ (by omega), q_un _ _ (by omega)]
      exact hD.2.2.2.1 j (by omega)
  · unfold x_telP9
    rw [q_us, show I 9 5 = t_tot D from hD.2.2.2.2]
    unfold t_tot
    show _ = nI (D.2.1 + 1) + _ + _ + _ + _
    rw [show nI (D.2.1 + 1) = nI D.2.1 + 1 from (q_addP rfl rfl).symm]
    simp [Int32.add_assoc, Int32.add_comm, q_alc]
