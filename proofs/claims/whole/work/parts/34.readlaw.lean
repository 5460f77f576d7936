theorem t_tok_k (t : Nat → Int32) (s : t_S) : (t_tok t s).2.1 ≤ 3 := t_k_le _
theorem t_k_ne {t : Nat → Int32} {s : t_S} {n : Nat} (h : ¬ (t_tok t s).2.1 = n) (hn : n < 100) : ¬ nI (t_tok t s).2.1 = nI n := by
  intro e
  have := t_tok_k t s
  exact h ((nI_eq (by omega) (by omega)).mp e)
def x_LQ (d : Nat) (sw : Bool) (gc b : Nat) (I : Nat → Nat → Int32) (J : Nat → Nat → Int64) (pc : Nat) (ll : List (Option Value)) (s : t_S) (f : Int32) (x : Int32 × t_S × t_D) : Prop :=
  ∃ I2, G (d + 7) 32 (pc, ll, [], qS sw gc (y_R I s f) J) none (qS sw gc (y_R I2 x.2.1 x.1) J) ∧ x_Dr b I2 x.2.2 ∧ x_fr b I I2
theorem q_b01 {b : Bool} {x : Int32} (h : x = q_b b) (hb : b = true) : x = 1 := by rw [h, hb]; rfl
theorem q_b00 {b : Bool} {x : Int32} (h : x = q_b b) (hb : ¬ b = true) : x = 0 := by
  cases b with
  | false => exact h
  | true => exact absurd rfl hb
theorem q_n1 {x : Int32} (h : x = 1 ∨ x = 0) (h1 : ¬ x = 1) : x = 0 := h.resolve_left h1
theorem x_L126_4 {d : Nat} {sw : Bool} {gc : Nat} {I : Nat → Nat → Int32} {J : Nat → Nat → Int64} {l : Nat} (hl : I 2 1 = nI l) (hl2 : l ≤ 200) {s : t_S} (hs : s.1 ≤ l) {v n w : Int32} {D D2 : t_D} (hD : x_Dr 4 I D) (hT : ∃ I2, (∀ a c e, GM (d + 6) 26 [.ref 4, .int v, .int n, .int w] (qS sw gc (x_R I a 3 c 0 e) J) none (qS sw gc (x_R I2 a 3 c 0 e) J)) ∧ x_Dr 4 I2 D2 ∧ x_fr 4 I I2) : x_LQ d sw gc 4 I J 126 [some (.ref 1), some (.ref 4), some (.int v), some (.int n), some (.int w)] s 0 (t_fin (x_T I) s D D2) := by
  have hq := t_q_l (x_T_end hl hl2) hs
  unfold t_fin x_LQ
  by_cases h1 : t_er (x_T I) s = 0
  · rw [if_pos h1]
    by_cases h2 : (t_tok (x_T I) s).2.1 = 3
    · rw [if_pos h2]
      obtain ⟨I2, g, hD2, hf⟩ := hT
      refine ⟨I2, x_lT126_4 hl hl2 (by omega) rfl (by omega) ?_, hD2, hf⟩
      show G _ _ (130, _, [], qS sw gc (y_R I (t_tok (x_T I) s) (t_er (x_T I) s)) J) _ _
      unfold y_R
      rw [h1, h2]
      exact x_lE2_4 (g _ _ _)
    · rw [if_neg h2]
      refine ⟨I, x_lT126_4 hl hl2 (by omega) rfl (by omega) ?_, hD, fun _ _ _ => rfl⟩
      show G _ _ (130, _, [], qS sw gc (y_R I (t_tok (x_T I) s) (t_er (x_T I) s)) J) _ _
      unfold y_R
      rw [h1]
      exact x_lE1_4 (t_k_ne h2 (by decide))
  · rw [if_neg h1]
    exact ⟨I, x_lT126_4 hl hl2 (by omega) rfl (by omega) (x_lF130_4 h1), hD, fun _ _ _ => rfl⟩
theorem x_L73_4 {d : Nat} {sw : Bool} {gc : Nat} {I : Nat → Nat → Int32} {J : Nat → Nat → Int64} {l : Nat} (hl : I 2 1 = nI l) (hl2 : l ≤ 200) {a : t_S} (hs : a.1 ≤ l) {v : Int32} {j : Nat} (hj : j < 5) (hv : v = nI j) {D : t_D} (hD : x_Dr 4 I D) (hm : t_may D v = true) (hi : f_inb v a.2.2.1 = 1) : x_LQ d sw gc 4 I J 73 [some (.ref 1), some (.ref 4), some (.int v), some (.int a.2.2.1), some (.int 0)] a 0 (if v = 4 then t_lawP (x_T I) D a else t_fin (x_T I) a D (t_addN D v a.2.2.1)) := by
  have ht := x_T_end hl hl2
  have hq := t_q_l ht hs
  subst hv
  unfold t_may at hm
  rw [q_clamp (by omega)] at hm
  by_cases h4 : j < 4
  · have e4 : ¬ nI j = 4 := fun e => absurd ((nI_eq (b := 4) (by omega) (by decide)).mp e) (by omega)
    rw [if_pos h4] at hm
    rw [if_neg e4]
    obtain ⟨I2, g, h⟩ := x_L126_4 (d := d) (sw := sw) (gc := gc) (J := J) hl hl2 hs (v := nI j) (n := a.2.2.1) (w := 0) hD ⟨x_tel4 I j a.2.2.1, fun a' c' e' => x_tel_R4 ▸ x_tell4 h4, x_tel_Dr4 hD h4 (of_decide_eq_true hm) (f_inb_lo hi), x_tel_fr4⟩
    exact ⟨I2, x_lC1_4 e4 g, h⟩
  · obtain rfl : j = 4 := by omega
    rw [if_neg h4] at hm
    have hc : D.2.1 < 4 := of_decide_eq_true hm
    rw [if_pos (by decide)]
    unfold t_lawP
    have eab := x_Dr_ab4 (n := a.2.2.1) hD
    by_cases h1 : t_abv D a.2.2.1 = true
    · rw [if_pos h1]
      have hq2 := t_q_l ht (t_tok_l ht hs)
      by_cases h2 : t_er (x_T I) a = 0
      · rw [if_pos h2]
        by_cases h3 : (t_tok (x_T I) a).2.1 = 2
        · rw [if_pos h3]
          by_cases h5 : f_isPoundage (t_tok (x_T I) a).2.2.1 = 1
          · rw [if_pos h5]
            obtain ⟨I2, g, h⟩ := x_L126_4 (d := d) (sw := sw) (gc := gc) (J := J) hl hl2 (t_tok_l ht hs) (v := 4) (n := a.2.2.1) (w := (t_tok (x_T I) a).2.2.1) hD ⟨x_telP4 I D.2.1 a.2.2.1 (t_tok (x_T I) a).2.2.1, fun a' c' e' => x_telP_R4 ▸ x_tellP4 ((x_R_un (by omega)).trans hD.2.1) hc, x_telP_Dr4 hD hc, x_telP_fr4⟩
            refine ⟨I2, x_lC3_4 (q_b01 eab h1) (x_lT88_4 hl hl2 (by omega) rfl (by omega) ?_), h⟩
            show G _ _ (92, _, [], qS sw gc (y_R I (t_tok (x_T I) a) (t_er (x_T I) a)) J) _ _
            unfold y_R at g ⊢
            rw [h2, h3]
            rw [h3] at g
            exact x_lD3_4 h5 g
          · rw [if_neg h5]
            refine ⟨I, x_lC3_4 (q_b01 eab h1) (x_lT88_4 hl hl2 (by omega) rfl (by omega) ?_), hD, fun _ _ _ => rfl⟩
            show G _ _ (92, _, [], qS sw gc (y_R I (t_tok (x_T I) a) (t_er (x_T I) a)) J) _ _
            unfold y_R
            rw [h2, h3]
            exact x_lD2_4 (q_n1 (f_pdg01 _) h5)
        · rw [if_neg h3]
          refine ⟨I, x_lC3_4 (q_b01 eab h1) (x_lT88_4 hl hl2 (by omega) rfl (by omega) ?_), hD, fun _ _ _ => rfl⟩
          show G _ _ (92, _, [], qS sw gc (y_R I (t_tok (x_T I) a) (t_er (x_T I) a)) J) _ _
          unfold y_R
          rw [h2]
          exact x_lD1_4 (t_k_ne h3 (by decide))
      · rw [if_neg h2]
        exact ⟨I, x_lC3_4 (q_b01 eab h1) (x_lT88_4 hl hl2 (by omega) rfl (by omega) (x_lF92_4 h2)), hD, fun _ _ _ => rfl⟩
    · rw [if_neg h1]
      exact ⟨I, x_lC2_4 (q_b00 eab h1), hD, fun _ _ _ => rfl⟩
theorem x_L0_4 {d : Nat} {sw : Bool} {gc : Nat} {I : Nat → Nat → Int32} {J : Nat → Nat → Int64} {l : Nat} (hl : I 2 1 = nI l) (hl2 : l ≤ 200) {s : t_S} (hs : s.1 ≤ l) (hn : s.2.1 = 1 → ∃ j, j < 5 ∧ s.2.2.1 = nI j) (hk : s.2.1 ≤ 3) {D : t_D} (hD : x_Dr 4 I D) : x_LQ d sw gc 4 I J 0 [some (.ref 1), some (.ref 4), none, none, none] s 0 (t_law (x_T I) D s) := by
  have ht := x_T_end hl hl2
  have hq := t_q_l ht hs
  unfold t_law
  by_cases h1 : s.2.1 = 1
  · rw [if_pos h1]
    obtain ⟨j, hj, hv⟩ := hn h1
    have emt := x_Dr_mt4 hD hj hv
    by_cases h2 : t_may D s.2.2.1 = true
    · rw [if_pos h2]
      unfold t_lawN
      have A : ∀ {Iz : Nat → Nat → Int32}, G (d + 7) 32 (37, [some (.ref 1), some (.ref 4), some (.int s.2.2.1), none, none], [], qS sw gc (y_R I (t_tok (x_T I) s) (t_er (x_T I) s)) J) none (qS sw gc Iz J) → G (d + 7) 32 (0, [some (.ref 1), some (.ref 4), none, none, none], [], qS sw gc (y_R I s 0) J) none (qS sw gc Iz J) := by
        intro Iz g
        unfold y_R
        rw [h1]
        exact x_lA3_4 (q_b01 emt h2) (x_lT33_4 hl hl2 (by omega) rfl (by omega) g)
      by_cases h3 : t_er (x_T I) s = 0
      · rw [if_pos h3]
        by_cases h4 : (t_tok (x_T I) s).2.1 = 2
        · rw [if_pos h4]
          by_cases h5 : f_inb s.2.2.1 (t_tok (x_T I) s).2.2.1 = 1
          · rw [if_pos h5]
            obtain ⟨I2, g, h⟩ := x_L73_4 (d := d) (sw := sw) (gc := gc) (J := J) hl hl2 (t_tok_l ht hs) hj hv hD h2 h5
            refine ⟨I2, A ?_, h⟩
            unfold y_R at g ⊢
            rw [h3, h4]
            rw [h4] at g
            exact x_lB3_4 h5 g
          · rw [if_neg h5]
            refine ⟨I, A ?_, hD, fun _ _ _ => rfl⟩
            unfold y_R
            rw [h3, h4]
            exact x_lB2_4 (q_n1 (f_inb01 _ _) h5)
        · rw [if_neg h4]
          refine ⟨I, A ?_, hD, fun _ _ _ => rfl⟩
          unfold y_R
          rw [h3]
          exact x_lB1_4 (t_k_ne h4 (by decide))
      · rw [if_neg h3]
        exact ⟨I, A (x_lF37_4 h3), hD, fun _ _ _ => rfl⟩
    · rw [if_neg h2]
      refine ⟨I, ?_, hD, fun _ _ _ => rfl⟩
      unfold y_R
      rw [h1]
      exact x_lA2_4 (q_b00 emt h2)
  · rw [if_neg h1]
    exact ⟨I, x_lA1_4 (fun e => h1 ((nI_eq (b := 1) (by omega) (by decide)).mp e)), hD, fun _ _ _ => rfl⟩
theorem x_readLaw4 {d : Nat} {sw : Bool} {gc : Nat} {I : Nat → Nat → Int32} {J : Nat → Nat → Int64} {l : Nat} (hl : I 2 1 = nI l) (hl2 : l ≤ 200) {s : t_S} (hs : s.1 ≤ l) (hn : s.2.1 = 1 → ∃ j, j < 5 ∧ s.2.2.1 = nI j) (hk : s.2.1 ≤ 3) {D : t_D} (hD : x_Dr 4 I D) : ∃ I2, GM (d + 7) 32 [.ref 1, .ref 4] (qS sw gc (y_R I s 0) J) none (qS sw gc (y_R I2 (t_law (x_T I) D s).2.1 (t_law (x_T I) D s).1) J) ∧ x_Dr 4 I2 (t_law (x_T I) D s).2.2 ∧ x_fr 4 I I2 := by
  obtain ⟨I2, g, h⟩ := x_L0_4 (d := d) (sw := sw) (gc := gc) (J := J) hl hl2 hs hn hk hD
  exact ⟨I2, GM_of (by decide) x_out_n (Nat.le_of_ble_eq_true rfl) trivial g, h⟩
theorem x_L126_9 {d : Nat} {sw : Bool} {gc : Nat} {I : Nat → Nat → Int32} {J : Nat → Nat → Int64} {l : Nat} (hl : I 2 1 = nI l) (hl2 : l ≤ 200) {s : t_S} (hs : s.1 ≤ l) {v n w : Int32} {D D2 : t_D} (hD : x_Dr 9 I D) (hT : ∃ I2, (∀ a c e, GM (d + 6) 26 [.ref 9, .int v, .int n, .int w] (qS sw gc (x_R I a 3 c 0 e) J) none (qS sw gc (x_R I2 a 3 c 0 e) J)) ∧ x_Dr 9 I2 D2 ∧ x_fr 9 I I2) : x_LQ d sw gc 9 I J 126 [some (.ref 1), some (.ref 9), some (.int v), some (.int n), some (.int w)] s 0 (t_fin (x_T I) s D D2) := by
  have hq := t_q_l (x_T_end hl hl2) hs
  unfold t_fin x_LQ
  by_cases h1 : t_er (x_T I) s = 0
  · rw [if_pos h1]
    by_cases h2 : (t_tok (x_T I) s).2.1 = 3
    · rw [if_pos h2]
      obtain ⟨I2, g, hD2, hf⟩ := hT
      refine ⟨I2, x_lT126_9 hl hl2 (by omega) rfl (by omega) ?_, hD2, hf⟩
      show G _ _ (130, _, [], qS sw gc (y_R I (t_tok (x_T I) s) (t_er (x_T I) s)) J) _ _
      unfold y_R
      rw [h1, h2]
      exact x_lE2_9 (g _ _ _)
    · rw [if_neg h2]
      refine ⟨I, x_lT126_9 hl hl2 (by omega) rfl (by omega) ?_, hD, fun _ _ _ => rfl⟩
      show G _ _ (130, _, [], qS sw gc (y_R I (t_tok (x_T I) s) (t_er (x_T I) s)) J) _ _
      unfold y_R
      rw [h1]
      exact x_lE1_9 (t_k_ne h2 (by decide))
  · rw [if_neg h1]
    exact ⟨I, x_lT126_9 hl hl2 (by omega) rfl (by omega) (x_lF130_9 h1), hD, fun _ _ _ => rfl⟩
theorem x_L73_9 {d : Nat} {sw : Bool} {gc : Nat} {I : Nat → Nat → Int32} {J : Nat → Nat → Int64} {l : Nat} (hl : I 2 1 = nI l) (hl2 : l ≤ 200) {a : t_S} (hs : a.1 ≤ l) {v : Int32} {j : Nat} (hj : j < 5) (hv : v = nI j) {D : t_D} (hD : x_Dr 9 I D) (hm : t_may D v = true) (hi : f_inb v a.2.2.1 = 1) : x_LQ d sw gc 9 I J 73 [some (.ref 1), some (.ref 9), some (.int v), some (.int a.2.2.1), some (.int 0)] a 0 (if v = 4 then t_lawP (x_T I) D a else t_fin (x_T I) a D (t_addN D v a.2.2.1)) := by
  have ht := x_T_end hl hl2
  have hq := t_q_l ht hs
  subst hv
  unfold t_may at hm
  rw [q_clamp (by omega)] at hm
  by_cases h4 : j < 4
  · have e4 : ¬ nI j = 4 := fun e => absurd ((nI_eq (b := 4) (by omega) (by decide)).mp e) (by omega)
    rw [if_pos h4] at hm
    rw [if_neg e4]
    obtain ⟨I2, g, h⟩ := x_L126_9 (d := d) (sw := sw) (gc := gc) (J := J) hl hl2 hs (v := nI j) (n := a.2.2.1) (w := 0) hD ⟨x_tel9 I j a.2.2.1, fun a' c' e' => x_tel_R9 ▸ x_tell9 h4, x_tel_Dr9 hD h4 (of_decide_eq_true hm) (f_inb_lo hi), x_tel_fr9⟩
    exact ⟨I2, x_lC1_9 e4 g, h⟩
  · obtain rfl : j = 4 := by omega
    rw [if_neg h4] at hm
    have hc : D.2.1 < 4 := of_decide_eq_true hm
    rw [if_pos (by decide)]
    unfold t_lawP
    have eab := x_Dr_ab9 (n := a.2.2.1) hD
    by_cases h1 : t_abv D a.2.2.1 = true
    · rw [if_pos h1]
      have hq2 := t_q_l ht (t_tok_l ht hs)
      by_cases h2 : t_er (x_T I) a = 0
      · rw [if_pos h2]
        by_cases h3 : (t_tok (x_T I) a).2.1 = 2
        · rw [if_pos h3]
          by_cases h5 : f_isPoundage (t_tok (x_T I) a).2.2.1 = 1
          · rw [if_pos h5]
            obtain ⟨I2, g, h⟩ := x_L126_9 (d := d) (sw := sw) (gc := gc) (J := J) hl hl2 (t_tok_l ht hs) (v := 4) (n := a.2.2.1) (w := (t_tok (x_T I) a).2.2.1) hD ⟨x_telP9 I D.2.1 a.2.2.1 (t_tok (x_T I) a).2.2.1, fun a' c' e' => x_telP_R9 ▸ x_tellP9 ((x_R_un (by omega)).trans hD.2.1) hc, x_telP_Dr9 hD hc, x_telP_fr9⟩
            refine ⟨I2, x_lC3_9 (q_b01 eab h1) (x_lT88_9 hl hl2 (by omega) rfl (by omega) ?_), h⟩
            show G _ _ (92, _, [], qS sw gc (y_R I (t_tok (x_T I) a) (t_er (x_T I) a)) J) _ _
            unfold y_R at g ⊢
            rw [h2, h3]
            rw [h3] at g
            exact x_lD3_9 h5 g
          · rw [if_neg h5]
            refine ⟨I, x_lC3_9 (q_b01 eab h1) (x_lT88_9 hl hl2 (by omega) rfl (by omega) ?_), hD, fun _ _ _ => rfl⟩
            show G _ _ (92, _, [], qS sw gc (y_R I (t_tok (x_T I) a) (t_er (x_T I) a)) J) _ _
            unfold y_R
            rw [h2, h3]
            exact x_lD2_9 (q_n1 (f_pdg01 _) h5)
        · rw [if_neg h3]
          refine ⟨I, x_lC3_9 (q_b01 eab h1) (x_lT88_9 hl hl2 (by omega) rfl (by omega) ?_), hD, fun _ _ _ => rfl⟩
          show G _ _ (92, _, [], qS sw gc (y_R I (t_tok (x_T I) a) (t_er (x_T I) a)) J) _ _
          unfold y_R
          rw [h2]
          exact x_lD1_9 (t_k_ne h3 (by decide))
      · rw [if_neg h2]
        exact ⟨I, x_lC3_9 (q_b01 eab h1) (x_lT88_9 hl hl2 (by omega) rfl (by omega) (x_lF92_9 h2)), hD, fun _ _ _ => rfl⟩
    · rw [if_neg h1]
      exact ⟨I, x_lC2_9 (q_b00 eab h1), hD, fun _ _ _ => rfl⟩
theorem x_L0_9 {d : Nat} {sw : Bool} {gc : Nat} {I : Nat → Nat → Int32} {J : Nat → Nat → Int64} {l : Nat} (hl : I 2 1 = nI l) (hl2 : l ≤ 200) {s : t_S} (hs : s.1 ≤ l) (hn : s.2.1 = 1 → ∃ j, j < 5 ∧ s.2.2.1 = nI j) (hk : s.2.1 ≤ 3) {D : t_D} (hD : x_Dr 9 I D) : x_LQ d sw gc 9 I J 0 [some (.ref 1), some (.ref 9), none, none, none] s 0 (t_law (x_T I) D s) := by
  have ht := x_T_end hl hl2
  have hq := t_q_l ht hs
  unfold t_law
  by_cases h1 : s.2.1 = 1
  · rw [if_pos h1]
    obtain ⟨j, hj, hv⟩ := hn h1
    have emt := x_Dr_mt9 hD hj hv
    by_cases h2 : t_may D s.2.2.1 = true
    · rw [if_pos h2]
      unfold t_lawN
      have A : ∀ {Iz : Nat → Nat → Int32}, G (d + 7) 32 (37, [some (.ref 1), some (.ref 9), some (.int s.2.2.1), none, none], [], qS sw gc (y_R I (t_tok (x_T I) s) (t_er (x_T I) s)) J) none (qS sw gc Iz J) → G (d + 7) 32 (0, [some (.ref 1), some (.ref 9), none, none, none], [], qS sw gc (y_R I s 0) J) none (qS sw gc Iz J) := by
        intro Iz g
        unfold y_R
        rw [h1]
        exact x_lA3_9 (q_b01 emt h2) (x_lT33_9 hl hl2 (by omega) rfl (by omega) g)
      by_cases h3 : t_er (x_T I) s = 0
      · rw [if_pos h3]
        by_cases h4 : (t_tok (x_T I) s).2.1 = 2
        · rw [if_pos h4]
          by_cases h5 : f_inb s.2.2.1 (t_tok (x_T I) s).2.2.1 = 1
          · rw [if_pos h5]
            obtain ⟨I2, g, h⟩ := x_L73_9 (d := d) (sw := sw) (gc := gc) (J := J) hl hl2 (t_tok_l ht hs) hj hv hD h2 h5
            refine ⟨I2, A ?_, h⟩
            unfold y_R at g ⊢
            rw [h3, h4]
            rw [h4] at g
            exact x_lB3_9 h5 g
          · rw [if_neg h5]
            refine ⟨I, A ?_, hD, fun _ _ _ => rfl⟩
            unfold y_R
            rw [h3, h4]
            exact x_lB2_9 (q_n1 (f_inb01 _ _) h5)
        · rw [if_neg h4]
          refine ⟨I, A ?_, hD, fun _ _ _ => rfl⟩
          unfold y_R
          rw [h3]
          exact x_lB1_9 (t_k_ne h4 (by decide))
      · rw [if_neg h3]
        exact ⟨I, A (x_lF37_9 h3), hD, fun _ _ _ => rfl⟩
    · rw [if_neg h2]
      refine ⟨I, ?_, hD, fun _ _ _ => rfl⟩
      unfold y_R
      rw [h1]
      exact x_lA2_9 (q_b00 emt h2)
  · rw [if_neg h1]
    exact ⟨I, x_lA1_9 (fun e => h1 ((nI_eq (b := 1) (by omega) (by decide)).mp e)), hD, fun _ _ _ => rfl⟩
theorem x_readLaw9 {d : Nat} {sw : Bool} {gc : Nat} {I : Nat → Nat → Int32} {J : Nat → Nat → Int64} {l : Nat} (hl : I 2 1 = nI l) (hl2 : l ≤ 200) {s : t_S} (hs : s.1 ≤ l) (hn : s.2.1 = 1 → ∃ j, j < 5 ∧ s.2.2.1 = nI j) (hk : s.2.1 ≤ 3) {D : t_D} (hD : x_Dr 9 I D) : ∃ I2, GM (d + 7) 32 [.ref 1, .ref 9] (qS sw gc (y_R I s 0) J) none (qS sw gc (y_R I2 (t_law (x_T I) D s).2.1 (t_law (x_T I) D s).1) J) ∧ x_Dr 9 I2 (t_law (x_T I) D s).2.2 ∧ x_fr 9 I I2 := by
  obtain ⟨I2, g, h⟩ := x_L0_9 (d := d) (sw := sw) (gc := gc) (J := J) hl hl2 hs hn hk hD
  exact ⟨I2, GM_of (by decide) x_out_n (Nat.le_of_ble_eq_true rfl) trivial g, h⟩
