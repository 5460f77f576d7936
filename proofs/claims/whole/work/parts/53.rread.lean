def t_nx (t : Nat → Int32) (y : Int32 × t_S × t_D) : Int32 × t_S × t_D := if y.1 = 0 then (t_er t y.2.1, t_tok t y.2.1, y.2.2) else y
theorem t_nx_0 {t : Nat → Int32} {s : t_S} {D : t_D} : t_nx t (0, s, D) = (t_er t s, t_tok t s, D) := if_pos rfl
theorem t_nx_n {t : Nat → Int32} {f : Int32} {s : t_S} {D : t_D} (h : ¬ f = 0) : t_nx t (f, s, D) = (f, s, D) := if_neg h
def r_Dr (I : Nat → Nat → Int32) (D : t_D) : Prop := (∀ k, k < 4 → I 67 k = D.1 k) ∧ I 62 13 = nI D.2.1 ∧ D.2.1 ≤ 4 ∧ ∀ j, j < D.2.1 → I 68 j = D.2.2.1 j ∧ I 69 j = D.2.2.2 j
def r_fr (I I2 : Nat → Nat → Int32) : Prop := ∀ i j, ¬ (67 ≤ i ∧ i ≤ 69) → ¬ (i = 62 ∧ j = 13) → I2 i j = I i j
def r_Po (I I2 : Nat → Nat → Int32) (A B S V f W : Int32) (x : Int32 × t_S × t_D) : Prop := f = x.1 ∧ (x.1 = 0 → A = nI x.2.1.1 ∧ B = nI x.2.1.2.2.2 ∧ S = nI x.2.1.2.1 ∧ V = x.2.1.2.2.1 ∧ r_Dr I2 x.2.2) ∧ (¬ x.1 = 0 → W = nI x.2.1.2.2.2) ∧ r_fr I I2
theorem r_fr_id {I : Nat → Nat → Int32} : r_fr I I := fun _ _ _ _ => rfl
theorem r_fr_tr {I I2 I3 : Nat → Nat → Int32} (h : r_fr I I2) (h2 : r_fr I2 I3) : r_fr I I3 := fun i j a b => (h2 i j a b).trans (h i j a b)
theorem r_fr_u {I : Nat → Nat → Int32} {i j : Nat} {z : Int32} (h : 67 ≤ i ∧ i ≤ 69 ∨ (i = 62 ∧ j = 13)) : r_fr I (q_u I i j z) := by
  intro a b h1 h2
  rw [q_un _ _ (by omega)]
theorem r_Po_n {I I2 : Nat → Nat → Int32} {A B S V f W : Int32} {s : t_S} {D : t_D} {t : Nat → Int32} (h : ¬ f = 0) (hW : W = nI s.2.2.2) (hf : r_fr I I2) : r_Po I I2 A B S V f W (t_nx t (f, s, D)) := by
  rw [t_nx_n h]
  exact ⟨rfl, fun e => absurd e h, fun _ => hW, hf⟩
theorem r_Tp_u {I : Nat → Nat → Int32} {t : Nat → Int32} {l i j : Nat} {z : Int32} (h : r_Tp I t l) (h1 : ¬ (i = 62 ∧ j = 1)) (h2 : ¬ i = 63) : r_Tp (q_u I i j z) t l := by
  refine ⟨by rw [q_un _ _ (by omega)]; exact h.1, h.2.1, fun p hp => ?_, h.2.2.2⟩
  rw [q_un _ _ (by omega)]
  exact h.2.2.1 p hp
theorem r_Dr_N {I : Nat → Nat → Int32} {D : t_D} {k : Nat} {v : Int32} (h : r_Dr I D) (hk : k < 4) : r_Dr (q_u I 67 k v) (t_addN D (nI k) v) := by
  unfold t_addN
  rw [q_clamp (by omega)]
  refine ⟨fun i hi => ?_, ?_, h.2.2.1, fun j hj => ?_⟩
  · show _ = if i = k then v else D.1 i
    by_cases e : i = k
    · subst e; rw [q_us, if_pos rfl]
    · rw [q_un _ _ (by omega), if_neg e]; exact h.1 i hi
  · rw [q_un _ _ (by omega)]; exact h.2.1
  · rw [q_un _ _ (by omega), q_un _ _ (by omega)]; exact h.2.2.2 j hj
theorem r_Dr_P {I : Nat → Nat → Int32} {D : t_D} {v w : Int32} (h : r_Dr I D) (hc : D.2.1 < 4) : r_Dr (q_u (q_u (q_u I 68 D.2.1 v) 69 D.2.1 w) 62 13 (nI (D.2.1 + 1))) (t_addP D v w) := by
  refine ⟨fun i hi => ?_, ?_, hc, fun j hj => ?_⟩
  · rw [q_un _ _ (by omega), q_un _ _ (by omega), q_un _ _ (by omega)]; exact h.1 i hi
  · rw [q_us]; rfl
  · have hj : j < D.2.1 + 1 := hj
    show _ = (if j = D.2.1 then v else D.2.2.1 j) ∧ _ = (if j = D.2.1 then w else D.2.2.2 j)
    by_cases e : j = D.2.1
    · subst e
      rw [if_pos rfl, if_pos rfl, q_un _ _ (by omega), q_un _ _ (by omega), q_us, q_un _ _ (by omega), q_us]
      exact ⟨rfl, rfl⟩
    · rw [if_neg e, if_neg e, q_un _ _ (by omega), q_un _ _ (by omega), q_un _ _ (by omega), q_un _ _ (by omega), q_un _ _ (by omega), q_un _ _ (by omega)]
      exact h.2.2.2 j (by omega)
def r_Nx (t : Nat → Int32) (s : t_S) (A S V W : Int32) : Prop := (t_er t s = 0 → A = nI (t_tok t s).1 ∧ S = nI (t_tok t s).2.1 ∧ V = (t_tok t s).2.2.1) ∧ (¬ t_er t s = 0 → W = nI (t_tok t s).2.2.2)
theorem r_nexts {d : Nat} {sw : Bool} {gc : Nat} {I : Nat → Nat → Int32} {J : Nat → Nat → Int64} {t : Nat → Int32} {l : Nat} (hT : r_Tp I t l) {s : t_S} (hs : s.1 ≤ l) {b c v e : Int32} (hv : v = s.2.2.1) : ∃ A S V W, GM (d + 3) 106 [.ref 62] (qS sw gc (r_R I (nI s.1) b c v 0 e) J) none (qS sw gc (r_R I A (nI (t_tok t s).2.2.2) S V (t_er t s) W) J) ∧ r_Nx t s A S V W := by
  subst hv
  obtain ⟨A, S, V, W, g, h⟩ := r_next (d := d) (sw := sw) (gc := gc) (J := J) hT hs (b := b) (c := c) (v := s.2.2.1) (e := e)
  exact ⟨A, S, V, W, g, h⟩
theorem t_kn {t : Nat → Int32} {s : t_S} {n : Nat} (h : (t_tok t s).2.1 = n) : nI (t_tok t s).2.1 = nI n := congrArg nI h
theorem r_Q254 {d : Nat} {sw : Bool} {gc : Nat} {I : Nat → Nat → Int32} {J : Nat → Nat → Int64} {t : Nat → Int32} {l : Nat} {Ib : Nat → Nat → Int32} (hT : r_Tp Ib t l) (hfr : r_fr I Ib) {s : t_S} (hs : s.1 ≤ l) {D D2 : t_D} (hD2 : r_Dr Ib D2) {A S V W : Int32} (hN : r_Nx t s A S V W) : ∃ I2 A2 B2 S2 V2 f2 W2, G (d + 5) 109 (254, [some (.ref 62), none, none, none], [], qS sw gc (r_R Ib A (nI (t_tok t s).2.2.2) S V (t_er t s) W) J) none (qS sw gc (r_R I2 A2 B2 S2 V2 f2 W2) J) ∧ r_Po I I2 A2 B2 S2 V2 f2 W2 (t_nx t (t_fin t s D D2)) := by
  unfold t_fin
  by_cases he : t_er t s = 0
  · obtain ⟨rfl, rfl, rfl⟩ := hN.1 he
    rw [if_pos he, he]
    by_cases hk : (t_tok t s).2.1 = 3
    · rw [if_pos hk, t_kn hk, t_nx_0]
      obtain ⟨A2, S2, V2, W2, g, hN2⟩ := r_nexts (d := d + 1) (sw := sw) (gc := gc) (J := J) (I := Ib) hT (s := t_tok t s) (t_tok_l hT.2.2.2 hs) (b := nI (t_tok t s).2.2.2) (c := 3) (e := W) rfl
      refine ⟨Ib, A2, _, S2, V2, _, W2, r_lE2 g, rfl, fun h => ?_, hN2.2, hfr⟩
      obtain ⟨h1, h2, h3⟩ := hN2.1 h
      exact ⟨h1, rfl, h2, h3, hD2⟩
    · rw [if_neg hk]
      exact ⟨Ib, _, _, _, _, _, _, r_lE1 (t_k_ne hk (by decide)), r_Po_n (by decide) rfl hfr⟩
  · rw [if_neg he]
    exact ⟨Ib, _, _, _, _, _, _, r_lE0 he, r_Po_n he (hN.2 he) hfr⟩
theorem f_inb_0 (v : Int32) : f_inb 0 v = f_i3 v 0 9999 := by
  unfold f_inb f_i3
  rw [if_neg (by decide), if_neg (by decide)]
  rfl
theorem f_inb_1 (v : Int32) : f_inb 1 v = f_i3 v 1 20 := by
  unfold f_inb f_i3
  rw [if_neg (by decide), if_neg (by decide)]
  rfl
theorem f_inb_2 (v : Int32) : f_inb 2 v = f_i3 v 0 999 := by
  unfold f_inb f_i3
  rw [if_neg (by decide), if_neg (by decide)]
  rfl
theorem f_inb_3 (v : Int32) : f_inb 3 v = f_i3 v 0 100 := by
  unfold f_inb f_i3
  rw [if_neg (by decide), if_neg (by decide)]
  rfl
theorem f_inb_4 (v : Int32) : f_inb 4 v = f_i3 v 0 9 := by
  unfold f_inb f_i3
  rw [if_neg (by decide), if_neg (by decide)]
  rfl
theorem r_Q84_0 {d : Nat} {sw : Bool} {gc : Nat} {I : Nat → Nat → Int32} {J : Nat → Nat → Int64} {t : Nat → Int32} {l : Nat} (hT : r_Tp I t l) {s : t_S} (hs : s.1 ≤ l) {D : t_D} (hD : r_Dr I D) {A S V W : Int32} (hN : r_Nx t s A S V W) : ∃ I2 A2 B2 S2 V2 f2 W2, G (d + 5) 109 (84, [some (.ref 62), some (.int 0), none, none], [], qS sw gc (r_R I A (nI (t_tok t s).2.2.2) S V (t_er t s) W) J) none (qS sw gc (r_R I2 A2 B2 S2 V2 f2 W2) J) ∧ r_Po I I2 A2 B2 S2 V2 f2 W2 (t_nx t (t_lawN t D 0 s)) := by
  have hu : ∀ z : Int32, r_fr I (q_u I 67 0 z) := fun z => r_fr_u (by omega)
  unfold t_lawN
  by_cases he : t_er t s = 0
  · obtain ⟨rfl, rfl, rfl⟩ := hN.1 he
    rw [if_pos he, he]
    by_cases hk : (t_tok t s).2.1 = 2
    · rw [if_pos hk, t_kn hk, f_inb_0]
      by_cases hv : f_i3 (t_tok t s).2.2.1 0 9999 = 1
      · rw [if_pos hv, if_neg (by decide)]
        have hs2 := t_tok_l hT.2.2.2 hs
        obtain ⟨A2, S2, V2, W2, g, hN2⟩ := r_nexts (d := d) (sw := sw) (gc := gc) (J := J) (I := I) hT (s := t_tok t s) hs2 (b := nI (t_tok t s).2.2.2) (c := 2) (e := W) rfl
        obtain ⟨I2, A3, B3, S3, V3, f3, W3, g3, hP⟩ := r_Q254 (d := d) (sw := sw) (gc := gc) (J := J) (I := I) (Ib := q_u I 67 0 (t_tok t s).2.2.1) (r_Tp_u hT (by omega) (by omega)) (hu _) hs2 (D := D) (r_Dr_N (k := 0) hD (by decide)) hN2
        exact ⟨I2, A3, B3, S3, V3, f3, W3, r_lB3_0 hv g g3, hP⟩
      · rw [if_neg hv]
        exact ⟨_, _, _, _, _, _, _, r_lB2_0 (q_n1 (f_i3_01 _ _ _) hv), r_Po_n (by decide) rfl (hu _)⟩
    · rw [if_neg hk]
      exact ⟨_, _, _, _, _, _, _, r_lB1_0 (t_k_ne hk (by decide)), r_Po_n (by decide) rfl (hu _)⟩
  · rw [if_neg he]
    exact ⟨_, _, _, _, _, _, _, r_lF0 he, r_Po_n he (hN.2 he) (hu _)⟩
theorem r_Q84_1 {d : Nat} {sw : Bool} {gc : Nat} {I : Nat → Nat → Int32} {J : Nat → Nat → Int64} {t : Nat → Int32} {l : Nat} (hT : r_Tp I t l) {s : t_S} (hs : s.1 ≤ l) {D : t_D} (hD : r_Dr I D) {A S V W : Int32} (hN : r_Nx t s A S V W) : ∃ I2 A2 B2 S2 V2 f2 W2, G (d + 5) 109 (84, [some (.ref 62), some (.int 1), none, none], [], qS sw gc (r_R I A (nI (t_tok t s).2.2.2) S V (t_er t s) W) J) none (qS sw gc (r_R I2 A2 B2 S2 V2 f2 W2) J) ∧ r_Po I I2 A2 B2 S2 V2 f2 W2 (t_nx t (t_lawN t D 1 s)) := by
  have hu : ∀ z : Int32, r_fr I (q_u I 67 1 z) := fun z => r_fr_u (by omega)
  unfold t_lawN
  by_cases he : t_er t s = 0
  · obtain ⟨rfl, rfl, rfl⟩ := hN.1 he
    rw [if_pos he, he]
    by_cases hk : (t_tok t s).2.1 = 2
    · rw [if_pos hk, t_kn hk, f_inb_1]
      by_cases hv : f_i3 (t_tok t s).2.2.1 1 20 = 1
      · rw [if_pos hv, if_neg (by decide)]
        have hs2 := t_tok_l hT.2.2.2 hs
        obtain ⟨A2, S2, V2, W2, g, hN2⟩ := r_nexts (d := d) (sw := sw) (gc := gc) (J := J) (I := I) hT (s := t_tok t s) hs2 (b := nI (t_tok t s).2.2.2) (c := 2) (e := W) rfl
        obtain ⟨I2, A3, B3, S3, V3, f3, W3, g3, hP⟩ := r_Q254 (d := d) (sw := sw) (gc := gc) (J := J) (I := I) (Ib := q_u I 67 1 (t_tok t s).2.2.1) (r_Tp_u hT (by omega) (by omega)) (hu _) hs2 (D := D) (r_Dr_N (k := 1) hD (by decide)) hN2
        exact ⟨I2, A3, B3, S3, V3, f3, W3, r_lB3_1 hv g g3, hP⟩
      · rw [if_neg hv]
        exact ⟨_, _, _, _, _, _, _, r_lB2_1 (q_n1 (f_i3_01 _ _ _) hv), r_Po_n (by decide) rfl (hu _)⟩
    · rw [if_neg hk]
      exact ⟨_, _, _, _, _, _, _, r_lB1_1 (t_k_ne hk (by decide)), r_Po_n (by decide) rfl (hu _)⟩
  · rw [if_neg he]
    exact ⟨_, _, _, _, _, _, _, r_lF1 he, r_Po_n he (hN.2 he) (hu _)⟩
theorem r_Q84_2 {d : Nat} {sw : Bool} {gc : Nat} {I : Nat → Nat → Int32} {J : Nat → Nat → Int64} {t : Nat → Int32} {l : Nat} (hT : r_Tp I t l) {s : t_S} (hs : s.1 ≤ l) {D : t_D} (hD : r_Dr I D) {A S V W : Int32} (hN : r_Nx t s A S V W) : ∃ I2 A2 B2 S2 V2 f2 W2, G (d + 5) 109 (84, [some (.ref 62), some (.int 2), none, none], [], qS sw gc (r_R I A (nI (t_tok t s).2.2.2) S V (t_er t s) W) J) none (qS sw gc (r_R I2 A2 B2 S2 V2 f2 W2) J) ∧ r_Po I I2 A2 B2 S2 V2 f2 W2 (t_nx t (t_lawN t D 2 s)) := by
  have hu : ∀ z : Int32, r_fr I (q_u I 67 2 z) := fun z => r_fr_u (by omega)
  unfold t_lawN
  by_cases he : t_er t s = 0
  · obtain ⟨rfl, rfl, rfl⟩ := hN.1 he
    rw [if_pos he, he]
    by_cases hk : (t_tok t s).2.1 = 2
    · rw [if_pos hk, t_kn hk, f_inb_2]
      by_cases hv : f_i3 (t_tok t s).2.2.1 0 999 = 1
      · rw [if_pos hv, if_neg (by decide)]
        have hs2 := t_tok_l hT.2.2.2 hs
        obtain ⟨A2, S2, V2, W2, g, hN2⟩ := r_nexts (d := d) (sw := sw) (gc := gc) (J := J) (I := I) hT (s := t_tok t s) hs2 (b := nI (t_tok t s).2.2.2) (c := 2) (e := W) rfl
        obtain ⟨I2, A3, B3, S3, V3, f3, W3, g3, hP⟩ := r_Q254 (d := d) (sw := sw) (gc := gc) (J := J) (I := I) (Ib := q_u I 67 2 (t_tok t s).2.2.1) (r_Tp_u hT (by omega) (by omega)) (hu _) hs2 (D := D) (r_Dr_N (k := 2) hD (by decide)) hN2
        exact ⟨I2, A3, B3, S3, V3, f3, W3, r_lB3_2 hv g g3, hP⟩
      · rw [if_neg hv]
        exact ⟨_, _, _, _, _, _, _, r_lB2_2 (q_n1 (f_i3_01 _ _ _) hv), r_Po_n (by decide) rfl (hu _)⟩
    · rw [if_neg hk]
      exact ⟨_, _, _, _, _, _, _, r_lB1_2 (t_k_ne hk (by decide)), r_Po_n (by decide) rfl (hu _)⟩
  · rw [if_neg he]
    exact ⟨_, _, _, _, _, _, _, r_lF2 he, r_Po_n he (hN.2 he) (hu _)⟩
theorem r_Q84_3 {d : Nat} {sw : Bool} {gc : Nat} {I : Nat → Nat → Int32} {J : Nat → Nat → Int64} {t : Nat → Int32} {l : Nat} (hT : r_Tp I t l) {s : t_S} (hs : s.1 ≤ l) {D : t_D} (hD : r_Dr I D) {A S V W : Int32} (hN : r_Nx t s A S V W) : ∃ I2 A2 B2 S2 V2 f2 W2, G (d + 5) 109 (84, [some (.ref 62), some (.int 3), none, none], [], qS sw gc (r_R I A (nI (t_tok t s).2.2.2) S V (t_er t s) W) J) none (qS sw gc (r_R I2 A2 B2 S2 V2 f2 W2) J) ∧ r_Po I I2 A2 B2 S2 V2 f2 W2 (t_nx t (t_lawN t D 3 s)) := by
  have hu : ∀ z : Int32, r_fr I (q_u I 67 3 z) := fun z => r_fr_u (by omega)
  unfold t_lawN
  by_cases he : t_er t s = 0
  · obtain ⟨rfl, rfl, rfl⟩ := hN.1 he
    rw [if_pos he, he]
    by_cases hk : (t_tok t s).2.1 = 2
    · rw [if_pos hk, t_kn hk, f_inb_3]
      by_cases hv : f_i3 (t_tok t s).2.2.1 0 100 = 1
      · rw [if_pos hv, if_neg (by decide)]
        have hs2 := t_tok_l hT.2.2.2 hs
        obtain ⟨A2, S2, V2, W2, g, hN2⟩ := r_nexts (d := d) (sw := sw) (gc := gc) (J := J) (I := I) hT (s := t_tok t s) hs2 (b := nI (t_tok t s).2.2.2) (c := 2) (e := W) rfl
        obtain ⟨I2, A3, B3, S3, V3, f3, W3, g3, hP⟩ := r_Q254 (d := d) (sw := sw) (gc := gc) (J := J) (I := I) (Ib := q_u I 67 3 (t_tok t s).2.2.1) (r_Tp_u hT (by omega) (by omega)) (hu _) hs2 (D := D) (r_Dr_N (k := 3) hD (by decide)) hN2
        exact ⟨I2, A3, B3, S3, V3, f3, W3, r_lB3_3 hv g g3, hP⟩
      · rw [if_neg hv]
        exact ⟨_, _, _, _, _, _, _, r_lB2_3 (q_n1 (f_i3_01 _ _ _) hv), r_Po_n (by decide) rfl (hu _)⟩
    · rw [if_neg hk]
      exact ⟨_, _, _, _, _, _, _, r_lB1_3 (t_k_ne hk (by decide)), r_Po_n (by decide) rfl (hu _)⟩
  · rw [if_neg he]
    exact ⟨_, _, _, _, _, _, _, r_lF3 he, r_Po_n he (hN.2 he) (hu _)⟩
theorem r_Q155 {d : Nat} {sw : Bool} {gc : Nat} {I : Nat → Nat → Int32} {J : Nat → Nat → Int64} {t : Nat → Int32} {l : Nat} (hT : r_Tp I t l) {s : t_S} (hs : s.1 ≤ l) {D : t_D} (hD : r_Dr I D) (hc : D.2.1 < 4) {A S V W u w : Int32} (hN : r_Nx t s A S V W) : ∃ I2 A2 B2 S2 V2 f2 W2, G (d + 5) 109 (155, [some (.ref 62), some (.int 4), some (.int u), some (.int w)], [], qS sw gc (r_R I A (nI (t_tok t s).2.2.2) S V (t_er t s) W) J) none (qS sw gc (r_R I2 A2 B2 S2 V2 f2 W2) J) ∧ r_Po I I2 A2 B2 S2 V2 f2 W2 (t_nx t (t_fin t s D (t_addP D u w))) := by
  by_cases he : t_er t s = 0
  · obtain ⟨I2, A3, B3, S3, V3, f3, W3, g3, hP⟩ := r_Q254 (d := d) (sw := sw) (gc := gc) (J := J) (I := I) (Ib := q_u (q_u (q_u I 68 D.2.1 u) 69 D.2.1 w) 62 13 (nI (D.2.1 + 1))) (r_Tp_u (r_Tp_u (r_Tp_u hT (by omega) (by omega)) (by omega) (by omega)) (by omega) (by omega)) (r_fr_tr (r_fr_tr (r_fr_u (by omega)) (r_fr_u (by omega))) (r_fr_u (by omega))) hs (D := D) (r_Dr_P (v := u) (w := w) hD hc) hN
    refine ⟨I2, A3, B3, S3, V3, f3, W3, ?_, hP⟩
    rw [he] at g3 ⊢
    exact r_lG1 hD.2.1 hc g3
  · unfold t_fin
    rw [if_neg he]
    exact ⟨_, _, _, _, _, _, _, r_lG0 he, r_Po_n he (hN.2 he) r_fr_id⟩
def t_lawP2 (t : Nat → Int32) (D : t_D) (a : t_S) : Int32 × t_S × t_D := if t_er t a = 0 then (if (t_tok t a).2.1 = 2 then (if f_isPoundage (t_tok t a).2.2.1 = 1 then t_fin t (t_tok t a) D (t_addP D a.2.2.1 (t_tok t a).2.2.1) else (3, t_tok t a, D)) else (2, t_tok t a, D)) else (t_er t a, t_tok t a, D)
theorem f_pdg_i3 (v : Int32) : f_isPoundage v = f_i3 v 0 300 := rfl
theorem r_Q142 {d : Nat} {sw : Bool} {gc : Nat} {I : Nat → Nat → Int32} {J : Nat → Nat → Int64} {t : Nat → Int32} {l : Nat} (hT : r_Tp I t l) {a : t_S} (hs : a.1 ≤ l) {D : t_D} (hD : r_Dr I D) (hc : D.2.1 < 4) {A S V W : Int32} (hN : r_Nx t a A S V W) : ∃ I2 A2 B2 S2 V2 f2 W2, G (d + 5) 109 (142, [some (.ref 62), some (.int 4), some (.int a.2.2.1), none], [], qS sw gc (r_R I A (nI (t_tok t a).2.2.2) S V (t_er t a) W) J) none (qS sw gc (r_R I2 A2 B2 S2 V2 f2 W2) J) ∧ r_Po I I2 A2 B2 S2 V2 f2 W2 (t_nx t (t_lawP2 t D a)) := by
  unfold t_lawP2
  by_cases he : t_er t a = 0
  · obtain ⟨rfl, rfl, rfl⟩ := hN.1 he
    rw [if_pos he, he]
    by_cases hk : (t_tok t a).2.1 = 2
    · rw [if_pos hk, t_kn hk, f_pdg_i3]
      by_cases hv : f_i3 (t_tok t a).2.2.1 0 300 = 1
      · rw [if_pos hv]
        have hs2 := t_tok_l hT.2.2.2 hs
        obtain ⟨A2, S2, V2, W2, g, hN2⟩ := r_nexts (d := d) (sw := sw) (gc := gc) (J := J) (I := I) hT (s := t_tok t a) hs2 (b := nI (t_tok t a).2.2.2) (c := 2) (e := W) rfl
        obtain ⟨I2, A3, B3, S3, V3, f3, W3, g3, hP⟩ := r_Q155 (d := d) (sw := sw) (gc := gc) (J := J) (I := I) hT hs2 hD hc (u := a.2.2.1) (w := (t_tok t a).2.2.1) hN2
        exact ⟨I2, A3, B3, S3, V3, f3, W3, r_lD3 hv g g3, hP⟩
      · rw [if_neg hv]
        exact ⟨_, _, _, _, _, _, _, r_lD2 (q_n1 (f_i3_01 _ _ _) hv), r_Po_n (by decide) rfl r_fr_id⟩
    · rw [if_neg hk]
      exact ⟨_, _, _, _, _, _, _, r_lD1 (t_k_ne hk (by decide)), r_Po_n (by decide) rfl r_fr_id⟩
  · rw [if_neg he]
    exact ⟨_, _, _, _, _, _, _, r_lD0 he, r_Po_n he (hN.2 he) r_fr_id⟩
theorem r_Q84_4 {d : Nat} {sw : Bool} {gc : Nat} {I : Nat → Nat → Int32} {J : Nat → Nat → Int64} {t : Nat → Int32} {l : Nat} (hT : r_Tp I t l) {s : t_S} (hs : s.1 ≤ l) {D : t_D} (hD : r_Dr I D) (hc : D.2.1 < 4) {A S V W : Int32} (hN : r_Nx t s A S V W) : ∃ I2 A2 B2 S2 V2 f2 W2, G (d + 5) 109 (84, [some (.ref 62), some (.int 4), none, none], [], qS sw gc (r_R I A (nI (t_tok t s).2.2.2) S V (t_er t s) W) J) none (qS sw gc (r_R I2 A2 B2 S2 V2 f2 W2) J) ∧ r_Po I I2 A2 B2 S2 V2 f2 W2 (t_nx t (t_lawN t D 4 s)) := by
  unfold t_lawN
  by_cases he : t_er t s = 0
  · obtain ⟨rfl, rfl, rfl⟩ := hN.1 he
    rw [if_pos he, he]
    by_cases hk : (t_tok t s).2.1 = 2
    · rw [if_pos hk, t_kn hk, f_inb_4]
      by_cases hv : f_i3 (t_tok t s).2.2.1 0 9 = 1
      · rw [if_pos hv, if_pos rfl]
        have hs2 := t_tok_l hT.2.2.2 hs
        unfold t_lawP
        by_cases ha : t_abv D (t_tok t s).2.2.1 = true
        · rw [if_pos ha]
          obtain ⟨A2, S2, V2, W2, g, hN2⟩ := r_nexts (d := d) (sw := sw) (gc := gc) (J := J) (I := I) hT (s := t_tok t s) hs2 (b := nI (t_tok t s).2.2.2) (c := 2) (e := W) rfl
          obtain ⟨I2, A3, B3, S3, V3, f3, W3, g3, hP⟩ := r_Q142 (d := d) (sw := sw) (gc := gc) (J := J) (I := I) hT hs2 hD hc hN2
          refine ⟨I2, A3, B3, S3, V3, f3, W3, ?_, hP⟩
          unfold t_abv at ha
          by_cases h0 : D.2.1 = 0
          · exact r_lC2 hD.2.1 (by omega) h0 hv g g3
          · rw [if_neg h0] at ha
            have h1 : ¬ (t_tok t s).2.2.1 ≤ D.2.2.1 (D.2.1 - 1) := by
              intro h2
              rw [decide_eq_true h2] at ha
              cases ha
            rw [← (hD.2.2.2 (D.2.1 - 1) (by omega)).1] at h1
            exact r_lC3 hD.2.1 (by omega) (by omega) (Int32.not_le.mp h1) hv g g3
        · rw [if_neg ha]
          unfold t_abv at ha
          by_cases h0 : D.2.1 = 0
          · rw [if_pos h0] at ha; exact absurd rfl ha
          · rw [if_neg h0] at ha
            have h1 : (t_tok t s).2.2.1 ≤ D.2.2.1 (D.2.1 - 1) := by
              by_cases h2 : (t_tok t s).2.2.1 ≤ D.2.2.1 (D.2.1 - 1)
              · exact h2
              · rw [decide_eq_false h2] at ha; exact absurd rfl ha
            rw [← (hD.2.2.2 (D.2.1 - 1) (by omega)).1] at h1
            exact ⟨_, _, _, _, _, _, _, r_lC1 hD.2.1 (by omega) (by omega) hv (Int32.not_lt.mpr h1), r_Po_n (by decide) rfl r_fr_id⟩
      · rw [if_neg hv]
        exact ⟨_, _, _, _, _, _, _, r_lB2_4 (q_n1 (f_i3_01 _ _ _) hv), r_Po_n (by decide) rfl r_fr_id⟩
    · rw [if_neg hk]
      exact ⟨_, _, _, _, _, _, _, r_lB1_4 (t_k_ne hk (by decide)), r_Po_n (by decide) rfl r_fr_id⟩
  · rw [if_neg he]
    exact ⟨_, _, _, _, _, _, _, r_lF4 he, r_Po_n he (hN.2 he) r_fr_id⟩
theorem r_readLaw {d : Nat} {sw : Bool} {gc : Nat} {I : Nat → Nat → Int32} {J : Nat → Nat → Int64} {t : Nat → Int32} {l : Nat} (hT : r_Tp I t l) {s : t_S} (hs : s.1 ≤ l) (hn : s.2.1 = 1 → ∃ j, j < 5 ∧ s.2.2.1 = nI j) (hk : s.2.1 ≤ 3) {D : t_D} (hD : r_Dr I D) {e : Int32} : ∃ I2 A2 B2 S2 V2 f2 W2, GM (d + 5) 109 [.ref 62] (qS sw gc (r_R I (nI s.1) (nI s.2.2.2) (nI s.2.1) s.2.2.1 0 e) J) none (qS sw gc (r_R I2 A2 B2 S2 V2 f2 W2) J) ∧ r_Po I I2 A2 B2 S2 V2 f2 W2 (t_nx t (t_law t D s)) := by
  suffices h : ∃ I2 A2 B2 S2 V2 f2 W2, G (d + 5) 109 (0, [some (.ref 62), none, none, none], [], qS sw gc (r_R I (nI s.1) (nI s.2.2.2) (nI s.2.1) s.2.2.1 0 e) J) none (qS sw gc (r_R I2 A2 B2 S2 V2 f2 W2) J) ∧ r_Po I I2 A2 B2 S2 V2 f2 W2 (t_nx t (t_law t D s)) by
    obtain ⟨I2, A2, B2, S2, V2, f2, W2, g, h⟩ := h
    exact ⟨I2, A2, B2, S2, V2, f2, W2, GM_of (by decide) x_out_n (Nat.le_of_ble_eq_true rfl) trivial g, h⟩
  unfold t_law
  by_cases h1 : s.2.1 = 1
  · rw [if_pos h1]
    obtain ⟨j, hj, hv⟩ := hn h1
    rw [hv, h1]
    obtain ⟨A, S, V, W, g, hN⟩ := r_nexts (d := d + 1) (sw := sw) (gc := gc) (J := J) (I := I) hT hs (b := nI s.2.2.2) (c := 1) (e := e) (v := nI j) hv.symm
    have hm : t_may D (nI j) = if j < 4 then decide (D.1 j = -4) else decide (D.2.1 < 4) := by
      unfold t_may
      rw [q_clamp (by omega)]
    rcases (show j = 0 ∨ j = 1 ∨ j = 2 ∨ j = 3 ∨ j = 4 by omega) with rfl | rfl | rfl | rfl | rfl
    · by_cases h2 : t_may D (nI 0) = true
      · rw [if_pos h2]
        rw [hm, if_pos (by decide)] at h2
        obtain ⟨I2, A3, B3, S3, V3, f3, W3, g3, hP⟩ := r_Q84_0 (d := d) (sw := sw) (gc := gc) (J := J) hT hs hD hN
        exact ⟨I2, A3, B3, S3, V3, f3, W3, r_lA3_0 ((hD.1 0 (by decide)).trans (of_decide_eq_true h2)) g g3, hP⟩
      · rw [if_neg h2]
        rw [hm, if_pos (by decide)] at h2
        exact ⟨_, _, _, _, _, _, _, r_lA2_0 (fun h3 => h2 (decide_eq_true ((hD.1 0 (by decide)).symm.trans h3))), r_Po_n (by decide) rfl (r_fr_u (by omega))⟩
    · by_cases h2 : t_may D (nI 1) = true
      · rw [if_pos h2]
        rw [hm, if_pos (by decide)] at h2
        obtain ⟨I2, A3, B3, S3, V3, f3, W3, g3, hP⟩ := r_Q84_1 (d := d) (sw := sw) (gc := gc) (J := J) hT hs hD hN
        exact ⟨I2, A3, B3, S3, V3, f3, W3, r_lA3_1 ((hD.1 1 (by decide)).trans (of_decide_eq_true h2)) g g3, hP⟩
      · rw [if_neg h2]
        rw [hm, if_pos (by decide)] at h2
        exact ⟨_, _, _, _, _, _, _, r_lA2_1 (fun h3 => h2 (decide_eq_true ((hD.1 1 (by decide)).symm.trans h3))), r_Po_n (by decide) rfl (r_fr_u (by omega))⟩
    · by_cases h2 : t_may D (nI 2) = true
      · rw [if_pos h2]
        rw [hm, if_pos (by decide)] at h2
        obtain ⟨I2, A3, B3, S3, V3, f3, W3, g3, hP⟩ := r_Q84_2 (d := d) (sw := sw) (gc := gc) (J := J) hT hs hD hN
        exact ⟨I2, A3, B3, S3, V3, f3, W3, r_lA3_2 ((hD.1 2 (by decide)).trans (of_decide_eq_true h2)) g g3, hP⟩
      · rw [if_neg h2]
        rw [hm, if_pos (by decide)] at h2
        exact ⟨_, _, _, _, _, _, _, r_lA2_2 (fun h3 => h2 (decide_eq_true ((hD.1 2 (by decide)).symm.trans h3))), r_Po_n (by decide) rfl (r_fr_u (by omega))⟩
    · by_cases h2 : t_may D (nI 3) = true
      · rw [if_pos h2]
        rw [hm, if_pos (by decide)] at h2
        obtain ⟨I2, A3, B3, S3, V3, f3, W3, g3, hP⟩ := r_Q84_3 (d := d) (sw := sw) (gc := gc) (J := J) hT hs hD hN
        exact ⟨I2, A3, B3, S3, V3, f3, W3, r_lA3_3 ((hD.1 3 (by decide)).trans (of_decide_eq_true h2)) g g3, hP⟩
      · rw [if_neg h2]
        rw [hm, if_pos (by decide)] at h2
        exact ⟨_, _, _, _, _, _, _, r_lA2_3 (fun h3 => h2 (decide_eq_true ((hD.1 3 (by decide)).symm.trans h3))), r_Po_n (by decide) rfl (r_fr_u (by omega))⟩
    · have hc4 := hD.2.2.1
      by_cases h2 : t_may D (nI 4) = true
      · rw [if_pos h2]
        rw [hm, if_neg (by decide)] at h2
        have hc := of_decide_eq_true h2
        obtain ⟨I2, A3, B3, S3, V3, f3, W3, g3, hP⟩ := r_Q84_4 (d := d) (sw := sw) (gc := gc) (J := J) hT hs hD hc hN
        refine ⟨I2, A3, B3, S3, V3, f3, W3, r_lA3_4 ?_ g g3, hP⟩
        rw [hD.2.1]
        exact fun h3 => absurd ((nI_eq (b := 4) (by omega) (by decide)).mp h3) (by omega)
      · rw [if_neg h2]
        rw [hm, if_neg (by decide)] at h2
        have hc : ¬ D.2.1 < 4 := fun h3 => h2 (decide_eq_true h3)
        refine ⟨_, _, _, _, _, _, _, r_lA2_4 ?_, r_Po_n (by decide) rfl r_fr_id⟩
        rw [hD.2.1, show D.2.1 = 4 by omega]; rfl
  · rw [if_neg h1]
    exact ⟨_, _, _, _, _, _, _, r_lA1 (fun h2 => h1 ((nI_eq (b := 1) (by omega) (by decide)).mp h2)), r_Po_n (by decide) rfl r_fr_id⟩
