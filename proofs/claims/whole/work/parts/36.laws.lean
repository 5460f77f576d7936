theorem q_swap_false {gc : Nat} : q_u (q_u (q_rf false gc) 0 1 (some 9)) 0 2 (some 4) = q_rf true gc := by
  funext i k
  cases i with
  | zero =>
    match k with
    | 0 => rfl
    | 1 => rfl
    | 2 => rfl
    | k + 3 => rfl
  | succ i => 
    unfold q_u
    rw [if_neg (by omega), if_neg (by omega)]
    rfl
theorem x_lwsF_false {d : Nat} {gc : Nat} {I : Nat → Nat → Int32} {J : Nat → Nat → Int64} {I1 : Nat → Nat → Int32} {f : Int32} (g : GM (d + 8) 31 [.ref 1, .ref 9] (qS false gc (x_fgt9 I) J) (some (.int f)) (qS false gc I1 J)) (hf : ¬ f = 0) : GM (d + 9) 70 [.ref 0] (qS false gc I J) (some (.int ((-10) - I1 1 5))) (qS false gc (q_u (q_u I1 0 3 f) 2 1 0) J) := by
  refine GM_of (by decide) (Nat.le_refl _) (Nat.le_of_ble_eq_true rfl) trivial ?_
  refine G_st (L := 89) (k := 2) (4, [some (.ref 0), none], [.ref 9], qS false gc I J) (q_hn _ _ _ _) rfl ?_
  refine G_callV (b := 9) (ci := 2) (as := []) (rest := []) rfl rfl rfl (q_lt (by decide)) (by decide) rfl rfl (Nat.le_of_ble_eq_true rfl) x_forget9 (Nat.le_refl _) ?_
  refine G_st (L := 89) (k := 5) (16, [some (.ref 0), none], [.ref 9, .ref 1, .ref 0], qS false gc (x_fgt9 I) J) (q_hn _ _ _ _) rfl ?_
  refine G_callV (b := 1) (ci := 3) (as := [.ref 9]) (rest := [.ref 0]) rfl rfl rfl (q_lt (by decide)) (by decide) rfl rfl (Nat.le_of_ble_eq_true rfl) g (Nat.le_refl _) ?_
  refine G_st (L := 89) (k := 4) (29, [some (.ref 0), none], [.ref 2], qS false gc (q_u I1 0 3 f) J) (q_hn _ _ _ _) rfl ?_
  refine G_callV (b := 2) (ci := 6) (as := []) (rest := []) rfl rfl rfl (q_lt (by decide)) (by decide) rfl rfl (Nat.le_of_ble_eq_true rfl) x_empty (Nat.le_refl _) ?_
  refine G_st (L := 89) (k := 2) (36, [some (.ref 0), none], [.int f], qS false gc (q_u (q_u I1 0 3 f) 2 1 0) J) (q_hn _ _ _ _) rfl ?_
  refine G_if_eq 50 rfl rfl (fun h9 => absurd h9 hf) (fun _ => ?_)
  refine G_st (L := 89) (k := 5) (49, [some (.ref 0), none], [.int ((-10) - (I1 1 5))], qS false gc (q_u (q_u I1 0 3 f) 2 1 0) J) (q_hn _ _ _ _) rfl ?_
  exact G_iret rfl rfl rfl rfl
theorem x_lwsT_false {d : Nat} {gc : Nat} {I : Nat → Nat → Int32} {J : Nat → Nat → Int64} {I1 : Nat → Nat → Int32} {f : Int32} (g : GM (d + 8) 31 [.ref 1, .ref 9] (qS false gc (x_fgt9 I) J) (some (.int f)) (qS false gc I1 J)) (hf : f = 0) : GM (d + 9) 70 [.ref 0] (qS false gc I J) (some (.int (I1 9 5))) (qS true gc (q_u (q_u I1 0 3 f) 2 1 0) J) := by
  refine GM_of (by decide) (Nat.le_refl _) (Nat.le_of_ble_eq_true rfl) trivial ?_
  refine G_st (L := 89) (k := 2) (4, [some (.ref 0), none], [.ref 9], qS false gc I J) (q_hn _ _ _ _) rfl ?_
  refine G_callV (b := 9) (ci := 2) (as := []) (rest := []) rfl rfl rfl (q_lt (by decide)) (by decide) rfl rfl (Nat.le_of_ble_eq_true rfl) x_forget9 (Nat.le_refl _) ?_
  refine G_st (L := 89) (k := 5) (16, [some (.ref 0), none], [.ref 9, .ref 1, .ref 0], qS false gc (x_fgt9 I) J) (q_hn _ _ _ _) rfl ?_
  refine G_callV (b := 1) (ci := 3) (as := [.ref 9]) (rest := [.ref 0]) rfl rfl rfl (q_lt (by decide)) (by decide) rfl rfl (Nat.le_of_ble_eq_true rfl) g (Nat.le_refl _) ?_
  refine G_st (L := 89) (k := 4) (29, [some (.ref 0), none], [.ref 2], qS false gc (q_u I1 0 3 f) J) (q_hn _ _ _ _) rfl ?_
  refine G_callV (b := 2) (ci := 6) (as := []) (rest := []) rfl rfl rfl (q_lt (by decide)) (by decide) rfl rfl (Nat.le_of_ble_eq_true rfl) x_empty (Nat.le_refl _) ?_
  refine G_st (L := 89) (k := 2) (36, [some (.ref 0), none], [.int f], qS false gc (q_u (q_u I1 0 3 f) 2 1 0) J) (q_hn _ _ _ _) rfl ?_
  refine G_if_eq 50 rfl rfl (fun _ => ?_) (fun h9 => absurd hf h9)
  refine G_st (L := 89) (k := 13) (75, [some (.ref 0), some (.ref 4)], [.int (I1 9 5)], ((2 * gc + 89, q_u (q_u (q_rf false gc) 0 1 (some 9)) 0 2 (some 4)), (q_u (q_u I1 0 3 f) 2 1 0, J))) (q_hn _ _ _ _) rfl ?_
  exact G_iret rfl rfl rfl (by unfold qS; rw [q_swap_false])
theorem x_laws_false {d : Nat} {gc : Nat} {I : Nat → Nat → Int32} {J : Nat → Nat → Int64} {l : Nat} (hl : I 2 1 = nI l) (hl2 : l ≤ 200) {D : t_D} {R : Int32 × t_S × t_D} (hR : t_read (x_T I) 200 (t_er (x_T I) (t_S0 (I 1 3)), t_tok (x_T I) (t_S0 (I 1 3)), ((fun _ => -4), 0, D.2.2)) = R) : ∃ I2, GM (d + 9) 70 [.ref 0] (qS false gc I J) (some (.int (if R.1 = 0 then t_tot R.2.2 else (-10) - nI R.2.1.2.2.2))) (qS (if R.1 = 0 then true else false) gc I2 J) ∧ (R.1 = 0 → x_Dr 9 I2 R.2.2) ∧ I2 0 3 = R.1 ∧ I2 2 1 = 0 ∧ (∀ i j, ¬ (9 ≤ i ∧ i ≤ 9 + 4) → ¬ i = 1 → ¬ (i = 0 ∧ j = 3) → ¬ (i = 2 ∧ j = 1) → I2 i j = I i j) := by
  have hf := x_fgt_fr9 (I := I)
  have eT : x_T (x_fgt9 I) = x_T I := x_T_fr (b := 9) (by decide) hf
  obtain ⟨I2, g, hD, hf2⟩ := x_read9 (d := d) (sw := false) (gc := gc) (J := J) (I := x_fgt9 I) ((hf 2 1 (by omega)).trans hl) hl2 (x_fgt_Dr9 (D := D))
  rw [eT, show x_fgt9 I 1 3 = I 1 3 from hf 1 3 (by omega), hR] at g hD
  have hfr : ∀ i j, ¬ (9 ≤ i ∧ i ≤ 9 + 4) → ¬ i = 1 → ¬ (i = 0 ∧ j = 3) → ¬ (i = 2 ∧ j = 1) → q_u (q_u (y_R I2 R.2.1 R.1) 0 3 R.1) 2 1 0 i j = I i j := by
    intro i j h1 h2 h3 h4
    rw [q_un _ _ h4, q_un _ _ h3]
    unfold y_R
    rw [x_R_un (by omega), hf2 i j h1, hf i j h1]
  have hDr : x_Dr 9 (q_u (q_u (y_R I2 R.2.1 R.1) 0 3 R.1) 2 1 0) R.2.2 := by
    have h : ∀ i j, 9 ≤ i → q_u (q_u (y_R I2 R.2.1 R.1) 0 3 R.1) 2 1 0 i j = I2 i j := by
      intro i j hi
      rw [q_un _ _ (by omega), q_un _ _ (by omega)]
      unfold y_R
      rw [x_R_un (by omega)]
    unfold x_Dr
    refine ⟨fun k hk => ?_, ?_, hD.2.2.1, fun j hj => ?_, ?_⟩
    · rw [h _ _ (by omega), h _ _ (by omega)]; exact hD.1 k hk
    · rw [h _ _ (by omega)]; exact hD.2.1
    · rw [h _ _ (by omega), h _ _ (by omega)]; exact hD.2.2.2.1 j hj
    · rw [h _ _ (by omega)]; exact hD.2.2.2.2
  refine ⟨q_u (q_u (y_R I2 R.2.1 R.1) 0 3 R.1) 2 1 0, ?_, fun _ => hDr, ?_, q_us _ _ _ _, hfr⟩
  · by_cases h : R.1 = 0
    · rw [if_pos h, if_pos h]
      have e : t_tot R.2.2 = y_R I2 R.2.1 R.1 9 5 := by
        rw [← hD.2.2.2.2]
        unfold y_R
        rw [x_R_un (by omega)]
      rw [e]
      exact x_lwsT_false g h
    · rw [if_neg h, if_neg h]
      have e : y_R I2 R.2.1 R.1 1 5 = nI R.2.1.2.2.2 := by
        unfold y_R x_R
        rw [q_us]
      rw [← e]
      exact x_lwsF_false g h
  · rw [q_un _ _ (by omega), q_us]
theorem q_swap_true {gc : Nat} : q_u (q_u (q_rf true gc) 0 1 (some 4)) 0 2 (some 9) = q_rf false gc := by
  funext i k
  cases i with
  | zero =>
    match k with
    | 0 => rfl
    | 1 => rfl
    | 2 => rfl
    | k + 3 => rfl
  | succ i => 
    unfold q_u
    rw [if_neg (by omega), if_neg (by omega)]
    rfl
theorem x_lwsF_true {d : Nat} {gc : Nat} {I : Nat → Nat → Int32} {J : Nat → Nat → Int64} {I1 : Nat → Nat → Int32} {f : Int32} (g : GM (d + 8) 31 [.ref 1, .ref 4] (qS true gc (x_fgt4 I) J) (some (.int f)) (qS true gc I1 J)) (hf : ¬ f = 0) : GM (d + 9) 70 [.ref 0] (qS true gc I J) (some (.int ((-10) - I1 1 5))) (qS true gc (q_u (q_u I1 0 3 f) 2 1 0) J) := by
  refine GM_of (by decide) (Nat.le_refl _) (Nat.le_of_ble_eq_true rfl) trivial ?_
  refine G_st (L := 89) (k := 2) (4, [some (.ref 0), none], [.ref 4], qS true gc I J) (q_hn _ _ _ _) rfl ?_
  refine G_callV (b := 4) (ci := 2) (as := []) (rest := []) rfl rfl rfl (q_lt (by decide)) (by decide) rfl rfl (Nat.le_of_ble_eq_true rfl) x_forget4 (Nat.le_refl _) ?_
  refine G_st (L := 89) (k := 5) (16, [some (.ref 0), none], [.ref 4, .ref 1, .ref 0], qS true gc (x_fgt4 I) J) (q_hn _ _ _ _) rfl ?_
  refine G_callV (b := 1) (ci := 3) (as := [.ref 4]) (rest := [.ref 0]) rfl rfl rfl (q_lt (by decide)) (by decide) rfl rfl (Nat.le_of_ble_eq_true rfl) g (Nat.le_refl _) ?_
  refine G_st (L := 89) (k := 4) (29, [some (.ref 0), none], [.ref 2], qS true gc (q_u I1 0 3 f) J) (q_hn _ _ _ _) rfl ?_
  refine G_callV (b := 2) (ci := 6) (as := []) (rest := []) rfl rfl rfl (q_lt (by decide)) (by decide) rfl rfl (Nat.le_of_ble_eq_true rfl) x_empty (Nat.le_refl _) ?_
  refine G_st (L := 89) (k := 2) (36, [some (.ref 0), none], [.int f], qS true gc (q_u (q_u I1 0 3 f) 2 1 0) J) (q_hn _ _ _ _) rfl ?_
  refine G_if_eq 50 rfl rfl (fun h9 => absurd h9 hf) (fun _ => ?_)
  refine G_st (L := 89) (k := 5) (49, [some (.ref 0), none], [.int ((-10) - (I1 1 5))], qS true gc (q_u (q_u I1 0 3 f) 2 1 0) J) (q_hn _ _ _ _) rfl ?_
  exact G_iret rfl rfl rfl rfl
theorem x_lwsT_true {d : Nat} {gc : Nat} {I : Nat → Nat → Int32} {J : Nat → Nat → Int64} {I1 : Nat → Nat → Int32} {f : Int32} (g : GM (d + 8) 31 [.ref 1, .ref 4] (qS true gc (x_fgt4 I) J) (some (.int f)) (qS true gc I1 J)) (hf : f = 0) : GM (d + 9) 70 [.ref 0] (qS true gc I J) (some (.int (I1 4 5))) (qS false gc (q_u (q_u I1 0 3 f) 2 1 0) J) := by
  refine GM_of (by decide) (Nat.le_refl _) (Nat.le_of_ble_eq_true rfl) trivial ?_
  refine G_st (L := 89) (k := 2) (4, [some (.ref 0), none], [.ref 4], qS true gc I J) (q_hn _ _ _ _) rfl ?_
  refine G_callV (b := 4) (ci := 2) (as := []) (rest := []) rfl rfl rfl (q_lt (by decide)) (by decide) rfl rfl (Nat.le_of_ble_eq_true rfl) x_forget4 (Nat.le_refl _) ?_
  refine G_st (L := 89) (k := 5) (16, [some (.ref 0), none], [.ref 4, .ref 1, .ref 0], qS true gc (x_fgt4 I) J) (q_hn _ _ _ _) rfl ?_
  refine G_callV (b := 1) (ci := 3) (as := [.ref 4]) (rest := [.ref 0]) rfl rfl rfl (q_lt (by decide)) (by decide) rfl rfl (Nat.le_of_ble_eq_true rfl) g (Nat.le_refl _) ?_
  refine G_st (L := 89) (k := 4) (29, [some (.ref 0), none], [.ref 2], qS true gc (q_u I1 0 3 f) J) (q_hn _ _ _ _) rfl ?_
  refine G_callV (b := 2) (ci := 6) (as := []) (rest := []) rfl rfl rfl (q_lt (by decide)) (by decide) rfl rfl (Nat.le_of_ble_eq_true rfl) x_empty (Nat.le_refl _) ?_
  refine G_st (L := 89) (k := 2) (36, [some (.ref 0), none], [.int f], qS true gc (q_u (q_u I1 0 3 f) 2 1 0) J) (q_hn _ _ _ _) rfl ?_
  refine G_if_eq 50 rfl rfl (fun _ => ?_) (fun h9 => absurd hf h9)
  refine G_st (L := 89) (k := 13) (75, [some (.ref 0), some (.ref 9)], [.int (I1 4 5)], ((2 * gc + 89, q_u (q_u (q_rf true gc) 0 1 (some 4)) 0 2 (some 9)), (q_u (q_u I1 0 3 f) 2 1 0, J))) (q_hn _ _ _ _) rfl ?_
  exact G_iret rfl rfl rfl (by unfold qS; rw [q_swap_true])
theorem x_laws_true {d : Nat} {gc : Nat} {I : Nat → Nat → Int32} {J : Nat → Nat → Int64} {l : Nat} (hl : I 2 1 = nI l) (hl2 : l ≤ 200) {D : t_D} {R : Int32 × t_S × t_D} (hR : t_read (x_T I) 200 (t_er (x_T I) (t_S0 (I 1 3)), t_tok (x_T I) (t_S0 (I 1 3)), ((fun _ => -4), 0, D.2.2)) = R) : ∃ I2, GM (d + 9) 70 [.ref 0] (qS true gc I J) (some (.int (if R.1 = 0 then t_tot R.2.2 else (-10) - nI R.2.1.2.2.2))) (qS (if R.1 = 0 then false else true) gc I2 J) ∧ (R.1 = 0 → x_Dr 4 I2 R.2.2) ∧ I2 0 3 = R.1 ∧ I2 2 1 = 0 ∧ (∀ i j, ¬ (4 ≤ i ∧ i ≤ 4 + 4) → ¬ i = 1 → ¬ (i = 0 ∧ j = 3) → ¬ (i = 2 ∧ j = 1) → I2 i j = I i j) := by
  have hf := x_fgt_fr4 (I := I)
  have eT : x_T (x_fgt4 I) = x_T I := x_T_fr (b := 4) (by decide) hf
  obtain ⟨I2, g, hD, hf2⟩ := x_read4 (d := d) (sw := true) (gc := gc) (J := J) (I := x_fgt4 I) ((hf 2 1 (by omega)).trans hl) hl2 (x_fgt_Dr4 (D := D))
  rw [eT, show x_fgt4 I 1 3 = I 1 3 from hf 1 3 (by omega), hR] at g hD
  have hfr : ∀ i j, ¬ (4 ≤ i ∧ i ≤ 4 + 4) → ¬ i = 1 → ¬ (i = 0 ∧ j = 3) → ¬ (i = 2 ∧ j = 1) → q_u (q_u (y_R I2 R.2.1 R.1) 0 3 R.1) 2 1 0 i j = I i j := by
    intro i j h1 h2 h3 h4
    rw [q_un _ _ h4, q_un _ _ h3]
    unfold y_R
    rw [x_R_un (by omega), hf2 i j h1, hf i j h1]
  have hDr : x_Dr 4 (q_u (q_u (y_R I2 R.2.1 R.1) 0 3 R.1) 2 1 0) R.2.2 := by
    have h : ∀ i j, 4 ≤ i → q_u (q_u (y_R I2 R.2.1 R.1) 0 3 R.1) 2 1 0 i j = I2 i j := by
      intro i j hi
      rw [q_un _ _ (by omega), q_un _ _ (by omega)]
      unfold y_R
      rw [x_R_un (by omega)]
    unfold x_Dr
    refine ⟨fun k hk => ?_, ?_, hD.2.2.1, fun j hj => ?_, ?_⟩
    · rw [h _ _ (by omega), h _ _ (by omega)]; exact hD.1 k hk
    · rw [h _ _ (by omega)]; exact hD.2.1
    · rw [h _ _ (by omega), h _ _ (by omega)]; exact hD.2.2.2.1 j hj
    · rw [h _ _ (by omega)]; exact hD.2.2.2.2
  refine ⟨q_u (q_u (y_R I2 R.2.1 R.1) 0 3 R.1) 2 1 0, ?_, fun _ => hDr, ?_, q_us _ _ _ _, hfr⟩
  · by_cases h : R.1 = 0
    · rw [if_pos h, if_pos h]
      have e : t_tot R.2.2 = y_R I2 R.2.1 R.1 4 5 := by
        rw [← hD.2.2.2.2]
        unfold y_R
        rw [x_R_un (by omega)]
      rw [e]
      exact x_lwsT_true g h
    · rw [if_neg h, if_neg h]
      have e : y_R I2 R.2.1 R.1 1 5 = nI R.2.1.2.2.2 := by
        unfold y_R x_R
        rw [q_us]
      rw [← e]
      exact x_lwsF_true g h
  · rw [q_un _ _ (by omega), q_us]
