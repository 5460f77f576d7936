def t_step (t : Nat → Int32) (x : Int32 × t_S × t_D) : Int32 × t_S × t_D := if (t_law t x.2.2 x.2.1).1 = 0 then (t_er t (t_law t x.2.2 x.2.1).2.1, t_tok t (t_law t x.2.2 x.2.1).2.1, (t_law t x.2.2 x.2.1).2.2) else t_law t x.2.2 x.2.1
def t_read (t : Nat → Int32) : Nat → Int32 × t_S × t_D → Int32 × t_S × t_D
  | 0, x => x
  | n + 1, x => if x.1 = 0 then (if x.2.1.2.1 = 0 then x else t_read t n (t_step t x)) else x
def t_ok (l : Nat) (x : Int32 × t_S × t_D) : Prop := x.2.1.1 ≤ l ∧ x.2.1.2.1 ≤ 3 ∧ (x.1 = 0 → x.2.1.2.1 = 1 → ∃ j, j < 5 ∧ x.2.1.2.2.1 = nI j)
def t_ok2 (l : Nat) (x : Int32 × t_S × t_D) : Prop := x.2.1.1 ≤ l ∧ x.2.1.2.1 ≤ 3
theorem t_ok2_tok {t : Nat → Int32} {l : Nat} {s : t_S} (ht : t_end t l) (h : s.1 ≤ l) (f : Int32) (D : t_D) : t_ok2 l (f, t_tok t s, D) := ⟨t_tok_l ht h, t_tok_k t s⟩
theorem t_ok2_fin {t : Nat → Int32} {l : Nat} {s : t_S} (ht : t_end t l) (h : s.1 ≤ l) (D D2 : t_D) : t_ok2 l (t_fin t s D D2) := by
  unfold t_fin
  split
  · split
    · exact t_ok2_tok ht h _ _
    · exact t_ok2_tok ht h _ _
  · exact t_ok2_tok ht h _ _
theorem t_ok2_P {t : Nat → Int32} {l : Nat} {s : t_S} (ht : t_end t l) (h : s.1 ≤ l) (hk : s.2.1 ≤ 3) (D : t_D) : t_ok2 l (t_lawP t D s) := by
  unfold t_lawP
  split
  · split
    · split
      · split
        · exact t_ok2_fin ht (t_tok_l ht h) _ _
        · exact t_ok2_tok ht h _ _
      · exact t_ok2_tok ht h _ _
    · exact t_ok2_tok ht h _ _
  · exact ⟨h, hk⟩
theorem t_ok2_N {t : Nat → Int32} {l : Nat} {s : t_S} (ht : t_end t l) (h : s.1 ≤ l) (v : Int32) (D : t_D) : t_ok2 l (t_lawN t D v s) := by
  unfold t_lawN
  split
  · split
    · split
      · split
        · exact t_ok2_P ht (t_tok_l ht h) (t_tok_k t s) _
        · exact t_ok2_fin ht (t_tok_l ht h) _ _
      · exact t_ok2_tok ht h _ _
    · exact t_ok2_tok ht h _ _
  · exact t_ok2_tok ht h _ _
theorem t_law_l {t : Nat → Int32} {l : Nat} {D : t_D} {s : t_S} (ht : t_end t l) (h : s.1 ≤ l) (hk : s.2.1 ≤ 3) : t_ok2 l (t_law t D s) := by
  unfold t_law
  split
  · split
    · exact t_ok2_N ht h _ _
    · exact ⟨h, hk⟩
  · exact ⟨h, hk⟩
theorem t_step_ok {t : Nat → Int32} {l : Nat} {x : Int32 × t_S × t_D} (ht : t_end t l) (h : t_ok l x) : t_ok l (t_step t x) := by
  obtain ⟨h1, h2⟩ := t_law_l (D := x.2.2) ht h.1 h.2.1
  unfold t_step
  split
  · exact ⟨t_tok_l ht h1, t_tok_k _ _, fun e k => t_tok_name e k⟩
  · rename_i h3
    exact ⟨h1, h2, fun e => absurd e h3⟩
theorem x_T_fr {b : Nat} {I I2 : Nat → Nat → Int32} (hb : 4 ≤ b) (h : x_fr b I I2) : x_T I2 = x_T I := by
  funext p
  unfold x_T
  rw [h 2 1 (by omega), h 3 p (by omega)]
theorem x_fr_tr {b : Nat} {I I2 I3 : Nat → Nat → Int32} (h : x_fr b I I2) (h2 : x_fr b I2 I3) : x_fr b I I3 := fun i j hi => (h2 i j hi).trans (h i j hi)
theorem x_rdZ4 {d : Nat} {sw : Bool} {gc : Nat} {I : Nat → Nat → Int32} {J : Nat → Nat → Int64} {a k v f e : Int32} : G (d + 8) 31 (16, [some (.ref 1), some (.ref 4), some (.int 200)], [], qS sw gc (x_R I a k v f e) J) (some (.int f)) (qS sw gc (x_R I a k v f e) J) := by
  refine G_st (L := 89) (k := 2) (20, [some (.ref 1), some (.ref 4), some (.int 200)], [.int 200, .int 200], qS sw gc (x_R I a k v f e) J) (q_hn _ _ _ _) rfl ?_
  refine G_icmp_ge 52 rfl rfl (fun _ => ?_) (fun h9 => absurd h9 (by decide))
  refine G_st (L := 89) (k := 2) (56, [some (.ref 1), some (.ref 4), some (.int 200)], [.int f], qS sw gc (x_R I a k v f e) J) (q_hn _ _ _ _) rfl ?_
  exact G_iret rfl rfl rfl rfl
theorem x_rdA4 {d : Nat} {sw : Bool} {gc : Nat} {I : Nat → Nat → Int32} {J : Nat → Nat → Int64} {a k v f e : Int32} {i : Nat} (hi : i < 200) (hf : ¬ f = 0) : G (d + 8) 31 (16, [some (.ref 1), some (.ref 4), some (.int (nI i))], [], qS sw gc (x_R I a k v f e) J) (some (.int f)) (qS sw gc (x_R I a k v f e) J) := by
  refine G_st (L := 89) (k := 2) (20, [some (.ref 1), some (.ref 4), some (.int (nI i))], [.int 200, .int (nI i)], qS sw gc (x_R I a k v f e) J) (q_hn _ _ _ _) rfl ?_
  refine G_icmp_ge 52 rfl rfl (fun h9 => absurd h9 (nI_ge (b := 200) (by omega) (by decide))) (fun _ => ?_)
  refine G_st (L := 89) (k := 2) (27, [some (.ref 1), some (.ref 4), some (.int (nI i))], [.int f], qS sw gc (x_R I a k v f e) J) (q_hn _ _ _ _) rfl ?_
  refine G_if_ne 52 rfl rfl (fun _ => ?_) (fun h9 => absurd h9 hf)
  refine G_st (L := 89) (k := 2) (56, [some (.ref 1), some (.ref 4), some (.int (nI i))], [.int f], qS sw gc (x_R I a k v f e) J) (q_hn _ _ _ _) rfl ?_
  exact G_iret rfl rfl rfl rfl
theorem x_rdB4 {d : Nat} {sw : Bool} {gc : Nat} {I : Nat → Nat → Int32} {J : Nat → Nat → Int64} {a v e : Int32} {i : Nat} (hi : i < 200) : G (d + 8) 31 (16, [some (.ref 1), some (.ref 4), some (.int (nI i))], [], qS sw gc (x_R I a 0 v 0 e) J) (some (.int 0)) (qS sw gc (x_R I a 0 v 0 e) J) := by
  refine G_st (L := 89) (k := 2) (20, [some (.ref 1), some (.ref 4), some (.int (nI i))], [.int 200, .int (nI i)], qS sw gc (x_R I a 0 v 0 e) J) (q_hn _ _ _ _) rfl ?_
  refine G_icmp_ge 52 rfl rfl (fun h9 => absurd h9 (nI_ge (b := 200) (by omega) (by decide))) (fun _ => ?_)
  refine G_st (L := 89) (k := 2) (27, [some (.ref 1), some (.ref 4), some (.int (nI i))], [.int 0], qS sw gc (x_R I a 0 v 0 e) J) (q_hn _ _ _ _) rfl ?_
  refine G_if_ne 52 rfl rfl (fun h9 => absurd h9 (by decide)) (fun _ => ?_)
  refine G_st (L := 89) (k := 2) (34, [some (.ref 1), some (.ref 4), some (.int (nI i))], [.int 0], qS sw gc (x_R I a 0 v 0 e) J) (q_hn _ _ _ _) rfl ?_
  refine G_if_eq 52 rfl rfl (fun _ => ?_) (fun h9 => absurd h9 (by decide))
  refine G_st (L := 89) (k := 2) (56, [some (.ref 1), some (.ref 4), some (.int (nI i))], [.int 0], qS sw gc (x_R I a 0 v 0 e) J) (q_hn _ _ _ _) rfl ?_
  exact G_iret rfl rfl rfl rfl
theorem x_rdC4 {d : Nat} {sw : Bool} {gc : Nat} {I : Nat → Nat → Int32} {J : Nat → Nat → Int64} {I1 I2 Iz : Nat → Nat → Int32} {a k v e : Int32} {r : Option Value} {i : Nat} (hi : i < 200) (hk : ¬ k = 0) (h1 : GM (d + 7) 32 [.ref 1, .ref 4] (qS sw gc (x_R I a k v 0 e) J) none (qS sw gc I1 J)) (h2 : GM (d + 7) 34 [.ref 1] (qS sw gc I1 J) none (qS sw gc I2 J)) (H : G (d + 8) 31 (16, [some (.ref 1), some (.ref 4), some (.int (nI (i + 1)))], [], qS sw gc I2 J) r (qS sw gc Iz J)) : G (d + 8) 31 (16, [some (.ref 1), some (.ref 4), some (.int (nI i))], [], qS sw gc (x_R I a k v 0 e) J) r (qS sw gc Iz J) := by
  refine G_st (L := 89) (k := 2) (20, [some (.ref 1), some (.ref 4), some (.int (nI i))], [.int 200, .int (nI i)], qS sw gc (x_R I a k v 0 e) J) (q_hn _ _ _ _) rfl ?_
  refine G_icmp_ge 52 rfl rfl (fun h9 => absurd h9 (nI_ge (b := 200) (by omega) (by decide))) (fun _ => ?_)
  refine G_st (L := 89) (k := 2) (27, [some (.ref 1), some (.ref 4), some (.int (nI i))], [.int 0], qS sw gc (x_R I a k v 0 e) J) (q_hn _ _ _ _) rfl ?_
  refine G_if_ne 52 rfl rfl (fun h9 => absurd h9 (by decide)) (fun _ => ?_)
  refine G_st (L := 89) (k := 2) (34, [some (.ref 1), some (.ref 4), some (.int (nI i))], [.int k], qS sw gc (x_R I a k v 0 e) J) (q_hn _ _ _ _) rfl ?_
  refine G_if_eq 52 rfl rfl (fun h9 => absurd h9 hk) (fun _ => ?_)
  refine G_st (L := 89) (k := 2) (39, [some (.ref 1), some (.ref 4), some (.int (nI i))], [.ref 4, .ref 1], qS sw gc (x_R I a k v 0 e) J) (q_hn _ _ _ _) rfl ?_
  refine G_callV (b := 1) (ci := 3) (as := [.ref 4]) (rest := []) rfl rfl rfl (q_lt (by decide)) (by decide) rfl rfl (Nat.le_of_ble_eq_true rfl) h1 x_out_n ?_
  refine G_st (L := 89) (k := 1) (43, [some (.ref 1), some (.ref 4), some (.int (nI i))], [.ref 1], qS sw gc I1 J) (q_hn _ _ _ _) rfl ?_
  refine G_callV (b := 1) (ci := 3) (as := []) (rest := []) rfl rfl rfl (q_lt (by decide)) (by decide) rfl rfl (Nat.le_of_ble_eq_true rfl) h2 x_out_n ?_
  refine G_st (L := 89) (k := 2) (16, [some (.ref 1), some (.ref 4), some (.int ((nI i) + 1))], [], qS sw gc I2 J) (q_hn _ _ _ _) rfl ?_
  rw [show (nI i) + 1 = nI (i + 1) from (q_addP rfl rfl)]
  exact H
theorem x_read_loop4 {d : Nat} {sw : Bool} {gc : Nat} {J : Nat → Nat → Int64} {l : Nat} (hl2 : l ≤ 200) : ∀ (n i : Nat) (x : Int32 × t_S × t_D) (I : Nat → Nat → Int32), I 2 1 = nI l → i + n = 200 → t_ok l x → x_Dr 4 I x.2.2 → ∃ I2, G (d + 8) 31 (16, [some (.ref 1), some (.ref 4), some (.int (nI i))], [], qS sw gc (y_R I x.2.1 x.1) J) (some (.int (t_read (x_T I) n x).1)) (qS sw gc (y_R I2 (t_read (x_T I) n x).2.1 (t_read (x_T I) n x).1) J) ∧ x_Dr 4 I2 (t_read (x_T I) n x).2.2 ∧ x_fr 4 I I2 := by
  intro n
  induction n with
  | zero =>
    intro i x I hl h hx hD
    obtain rfl : i = 200 := by omega
    exact ⟨I, x_rdZ4, hD, fun _ _ _ => rfl⟩
  | succ n ih =>
    intro i x I hl h hx hD
    have ht := x_T_end hl hl2
    unfold t_read
    by_cases h1 : x.1 = 0
    · rw [if_pos h1]
      by_cases h2 : x.2.1.2.1 = 0
      · rw [if_pos h2]
        refine ⟨I, ?_, hD, fun _ _ _ => rfl⟩
        unfold y_R
        rw [h1, h2]
        exact x_rdB4 (by omega)
      · rw [if_neg h2]
        have hk : ¬ nI x.2.1.2.1 = 0 := fun e => h2 ((nI_eq (b := 0) (by have := hx.2.1; omega) (by decide)).mp e)
        obtain ⟨I1, g1, hD1, hf1⟩ := x_readLaw4 (d := d) (sw := sw) (gc := gc) (J := J) hl hl2 hx.1 (hx.2.2 h1) hx.2.1 hD
        obtain ⟨hp1, hk1⟩ := t_law_l (D := x.2.2) ht hx.1 hx.2.1
        have hl1 : I1 2 1 = nI l := (hf1 2 1 (by omega)).trans hl
        have eT : x_T I1 = x_T I := x_T_fr (b := 4) (by decide) hf1
        have hq := t_q_l ht hp1
        have hs : GM (d + 7) 34 [.ref 1] (qS sw gc (y_R I1 (t_law (x_T I) x.2.2 x.2.1).2.1 (t_law (x_T I) x.2.2 x.2.1).1) J) none (qS sw gc (y_R I1 (t_step (x_T I) x).2.1 (t_step (x_T I) x).1) J) ∧ (t_step (x_T I) x).2.2 = (t_law (x_T I) x.2.2 x.2.1).2.2 := by
          unfold t_step
          by_cases h3 : (t_law (x_T I) x.2.2 x.2.1).1 = 0
          · rw [if_pos h3, h3]
            have g := x_readToken (d := d + 1) (sw := sw) (gc := gc) (J := J) (I := I1) hl1 hl2 (p := (t_law (x_T I) x.2.2 x.2.1).2.1.1) (q := t_q (x_T I) (t_law (x_T I) x.2.2 x.2.1).2.1.1) (by omega) (by rw [eT]) (by omega) (b := nI (t_law (x_T I) x.2.2 x.2.1).2.1.2.1) (c := (t_law (x_T I) x.2.2 x.2.1).2.1.2.2.1) (e := nI (t_law (x_T I) x.2.2 x.2.1).2.1.2.2.2)
            rw [eT] at g
            exact ⟨g, rfl⟩
          · rw [if_neg h3]
            exact ⟨x_readTokenF h3, rfl⟩
        obtain ⟨I2, g2, hD2, hf2⟩ := ih (i + 1) (t_step (x_T I) x) I1 hl1 (by omega) (t_step_ok ht hx) (hs.2 ▸ hD1)
        rw [eT] at g2 hD2
        refine ⟨I2, ?_, hD2, x_fr_tr hf1 hf2⟩
        have e : y_R I x.2.1 x.1 = y_R I x.2.1 0 := by rw [h1]
        rw [e]
        exact x_rdC4 (by omega) hk g1 hs.1 g2
    · rw [if_neg h1]
      exact ⟨I, x_rdA4 (by omega) h1, hD, fun _ _ _ => rfl⟩
def t_S0 (v : Int32) : t_S := (0, 0, v, 0)
theorem x_rdS4 {d : Nat} {sw : Bool} {gc : Nat} {I : Nat → Nat → Int32} {J : Nat → Nat → Int64} {l : Nat} (hl : I 2 1 = nI l) (hl2 : l ≤ 200) {Iz : Nat → Nat → Int32} {a k v f e : Int32} {r : Int32} {q : Nat} (hq : t_q (x_T I) 0 = q) (hq4 : q ≤ 400) (H : G (d + 8) 31 (16, [some (.ref 1), some (.ref 4), some (.int (0))], [], qS sw gc (x_R I (nI (t_n (x_T I) q)) (nI (t_k (x_T I q))) (t_v (x_T I) q v) (t_e (x_T I) q) (nI q)) J) (some (.int r)) (qS sw gc Iz J)) : GM (d + 8) 31 [.ref 1, .ref 4] (qS sw gc (x_R I a k v f e) J) (some (.int r)) (qS sw gc Iz J) := by
  refine GM_of (by decide) x_out_n (Nat.le_of_ble_eq_true rfl) trivial ?_
  refine G_st (L := 89) (k := 7) (11, [some (.ref 1), some (.ref 4), none], [.ref 1], qS sw gc (q_u (q_u (x_R I a k v f e) 1 1 0) 1 4 0) J) (q_hn _ _ _ _) rfl ?_
  rw [x_R1]
  rw [x_R4]
  refine G_callV (b := 1) (ci := 3) (as := []) (rest := []) rfl rfl rfl (q_lt (by decide)) (by decide) rfl rfl (Nat.le_of_ble_eq_true rfl) (x_readToken (p := 0) hl hl2 (by decide) hq hq4) x_out_n ?_
  refine G_st (L := 89) (k := 2) (16, [some (.ref 1), some (.ref 4), some (.int 0)], [], qS sw gc (x_R I (nI (t_n (x_T I) q)) (nI (t_k (x_T I q))) (t_v (x_T I) q v) (t_e (x_T I) q) (nI q)) J) (q_hn _ _ _ _) rfl ?_
  exact H
theorem x_read4 {d : Nat} {sw : Bool} {gc : Nat} {I : Nat → Nat → Int32} {J : Nat → Nat → Int64} {l : Nat} (hl : I 2 1 = nI l) (hl2 : l ≤ 200) {D : t_D} (hD : x_Dr 4 I D) : ∃ I2, GM (d + 8) 31 [.ref 1, .ref 4] (qS sw gc I J) (some (.int (t_read (x_T I) 200 (t_er (x_T I) (t_S0 (I 1 3)), t_tok (x_T I) (t_S0 (I 1 3)), D)).1)) (qS sw gc (y_R I2 (t_read (x_T I) 200 (t_er (x_T I) (t_S0 (I 1 3)), t_tok (x_T I) (t_S0 (I 1 3)), D)).2.1 (t_read (x_T I) 200 (t_er (x_T I) (t_S0 (I 1 3)), t_tok (x_T I) (t_S0 (I 1 3)), D)).1) J) ∧ x_Dr 4 I2 (t_read (x_T I) 200 (t_er (x_T I) (t_S0 (I 1 3)), t_tok (x_T I) (t_S0 (I 1 3)), D)).2.2 ∧ x_fr 4 I I2 := by
  have ht := x_T_end hl hl2
  have hq : t_q (x_T I) 0 ≤ l := t_q_l ht (Nat.zero_le _)
  obtain ⟨I2, g, h⟩ := x_read_loop4 (d := d) (sw := sw) (gc := gc) (J := J) hl2 200 0 (t_er (x_T I) (t_S0 (I 1 3)), t_tok (x_T I) (t_S0 (I 1 3)), D) I hl rfl ⟨t_tok_l ht (Nat.zero_le _), t_tok_k _ _, fun e k => t_tok_name e k⟩ hD
  refine ⟨I2, ?_, h⟩
  have e := x_R_id I
  have g2 := x_rdS4 (d := d) (sw := sw) (gc := gc) (J := J) hl hl2 (a := I 1 1) (k := I 1 2) (v := I 1 3) (f := I 1 4) (e := I 1 5) rfl (by omega) g
  rw [e] at g2
  exact g2
theorem x_rdZ9 {d : Nat} {sw : Bool} {gc : Nat} {I : Nat → Nat → Int32} {J : Nat → Nat → Int64} {a k v f e : Int32} : G (d + 8) 31 (16, [some (.ref 1), some (.ref 9), some (.int 200)], [], qS sw gc (x_R I a k v f e) J) (some (.int f)) (qS sw gc (x_R I a k v f e) J) := by
  refine G_st (L := 89) (k := 2) (20, [some (.ref 1), some (.ref 9), some (.int 200)], [.int 200, .int 200], qS sw gc (x_R I a k v f e) J) (q_hn _ _ _ _) rfl ?_
  refine G_icmp_ge 52 rfl rfl (fun _ => ?_) (fun h9 => absurd h9 (by decide))
  refine G_st (L := 89) (k := 2) (56, [some (.ref 1), some (.ref 9), some (.int 200)], [.int f], qS sw gc (x_R I a k v f e) J) (q_hn _ _ _ _) rfl ?_
  exact G_iret rfl rfl rfl rfl
theorem x_rdA9 {d : Nat} {sw : Bool} {gc : Nat} {I : Nat → Nat → Int32} {J : Nat → Nat → Int64} {a k v f e : Int32} {i : Nat} (hi : i < 200) (hf : ¬ f = 0) : G (d + 8) 31 (16, [some (.ref 1), some (.ref 9), some (.int (nI i))], [], qS sw gc (x_R I a k v f e) J) (some (.int f)) (qS sw gc (x_R I a k v f e) J) := by
  refine G_st (L := 89) (k := 2) (20, [some (.ref 1), some (.ref 9), some (.int (nI i))], [.int 200, .int (nI i)], qS sw gc (x_R I a k v f e) J) (q_hn _ _ _ _) rfl ?_
  refine G_icmp_ge 52 rfl rfl (fun h9 => absurd h9 (nI_ge (b := 200) (by omega) (by decide))) (fun _ => ?_)
  refine G_st (L := 89) (k := 2) (27, [some (.ref 1), some (.ref 9), some (.int (nI i))], [.int f], qS sw gc (x_R I a k v f e) J) (q_hn _ _ _ _) rfl ?_
  refine G_if_ne 52 rfl rfl (fun _ => ?_) (fun h9 => absurd h9 hf)
  refine G_st (L := 89) (k := 2) (56, [some (.ref 1), some (.ref 9), some (.int (nI i))], [.int f], qS sw gc (x_R I a k v f e) J) (q_hn _ _ _ _) rfl ?_
  exact G_iret rfl rfl rfl rfl
theorem x_rdB9 {d : Nat} {sw : Bool} {gc : Nat} {I : Nat → Nat → Int32} {J : Nat → Nat → Int64} {a v e : Int32} {i : Nat} (hi : i < 200) : G (d + 8) 31 (16, [some (.ref 1), some (.ref 9), some (.int (nI i))], [], qS sw gc (x_R I a 0 v 0 e) J) (some (.int 0)) (qS sw gc (x_R I a 0 v 0 e) J) := by
  refine G_st (L := 89) (k := 2) (20, [some (.ref 1), some (.ref 9), some (.int (nI i))], [.int 200, .int (nI i)], qS sw gc (x_R I a 0 v 0 e) J) (q_hn _ _ _ _) rfl ?_
  refine G_icmp_ge 52 rfl rfl (fun h9 => absurd h9 (nI_ge (b := 200) (by omega) (by decide))) (fun _ => ?_)
  refine G_st (L := 89) (k := 2) (27, [some (.ref 1), some (.ref 9), some (.int (nI i))], [.int 0], qS sw gc (x_R I a 0 v 0 e) J) (q_hn _ _ _ _) rfl ?_
  refine G_if_ne 52 rfl rfl (fun h9 => absurd h9 (by decide)) (fun _ => ?_)
  refine G_st (L := 89) (k := 2) (34, [some (.ref 1), some (.ref 9), some (.int (nI i))], [.int 0], qS sw gc (x_R I a 0 v 0 e) J) (q_hn _ _ _ _) rfl ?_
  refine G_if_eq 52 rfl rfl (fun _ => ?_) (fun h9 => absurd h9 (by decide))
  refine G_st (L := 89) (k := 2) (56, [some (.ref 1), some (.ref 9), some (.int (nI i))], [.int 0], qS sw gc (x_R I a 0 v 0 e) J) (q_hn _ _ _ _) rfl ?_
  exact G_iret rfl rfl rfl rfl
theorem x_rdC9 {d : Nat} {sw : Bool} {gc : Nat} {I : Nat → Nat → Int32} {J : Nat → Nat → Int64} {I1 I2 Iz : Nat → Nat → Int32} {a k v e : Int32} {r : Option Value} {i : Nat} (hi : i < 200) (hk : ¬ k = 0) (h1 : GM (d + 7) 32 [.ref 1, .ref 9] (qS sw gc (x_R I a k v 0 e) J) none (qS sw gc I1 J)) (h2 : GM (d + 7) 34 [.ref 1] (qS sw gc I1 J) none (qS sw gc I2 J)) (H : G (d + 8) 31 (16, [some (.ref 1), some (.ref 9), some (.int (nI (i + 1)))], [], qS sw gc I2 J) r (qS sw gc Iz J)) : G (d + 8) 31 (16, [some (.ref 1), some (.ref 9), some (.int (nI i))], [], qS sw gc (x_R I a k v 0 e) J) r (qS sw gc Iz J) := by
  refine G_st (L := 89) (k := 2) (20, [some (.ref 1), some (.ref 9), some (.int (nI i))], [.int 200, .int (nI i)], qS sw gc (x_R I a k v 0 e) J) (q_hn _ _ _ _) rfl ?_
  refine G_icmp_ge 52 rfl rfl (fun h9 => absurd h9 (nI_ge (b := 200) (by omega) (by decide))) (fun _ => ?_)
  refine G_st (L := 89) (k := 2) (27, [some (.ref 1), some (.ref 9), some (.int (nI i))], [.int 0], qS sw gc (x_R I a k v 0 e) J) (q_hn _ _ _ _) rfl ?_
  refine G_if_ne 52 rfl rfl (fun h9 => absurd h9 (by decide)) (fun _ => ?_)
  refine G_st (L := 89) (k := 2) (34, [some (.ref 1), some (.ref 9), some (.int (nI i))], [.int k], qS sw gc (x_R I a k v 0 e) J) (q_hn _ _ _ _) rfl ?_
  refine G_if_eq 52 rfl rfl (fun h9 => absurd h9 hk) (fun _ => ?_)
  refine G_st (L := 89) (k := 2) (39, [some (.ref 1), some (.ref 9), some (.int (nI i))], [.ref 9, .ref 1], qS sw gc (x_R I a k v 0 e) J) (q_hn _ _ _ _) rfl ?_
  refine G_callV (b := 1) (ci := 3) (as := [.ref 9]) (rest := []) rfl rfl rfl (q_lt (by decide)) (by decide) rfl rfl (Nat.le_of_ble_eq_true rfl) h1 x_out_n ?_
  refine G_st (L := 89) (k := 1) (43, [some (.ref 1), some (.ref 9), some (.int (nI i))], [.ref 1], qS sw gc I1 J) (q_hn _ _ _ _) rfl ?_
  refine G_callV (b := 1) (ci := 3) (as := []) (rest := []) rfl rfl rfl (q_lt (by decide)) (by decide) rfl rfl (Nat.le_of_ble_eq_true rfl) h2 x_out_n ?_
  refine G_st (L := 89) (k := 2) (16, [some (.ref 1), some (.ref 9), some (.int ((nI i) + 1))], [], qS sw gc I2 J) (q_hn _ _ _ _) rfl ?_
  rw [show (nI i) + 1 = nI (i + 1) from (q_addP rfl rfl)]
  exact H
theorem x_read_loop9 {d : Nat} {sw : Bool} {gc : Nat} {J : Nat → Nat → Int64} {l : Nat} (hl2 : l ≤ 200) : ∀ (n i : Nat) (x : Int32 × t_S × t_D) (I : Nat → Nat → Int32), I 2 1 = nI l → i + n = 200 → t_ok l x → x_Dr 9 I x.2.2 → ∃ I2, G (d + 8) 31 (16, [some (.ref 1), some (.ref 9), some (.int (nI i))], [], qS sw gc (y_R I x.2.1 x.1) J) (some (.int (t_read (x_T I) n x).1)) (qS sw gc (y_R I2 (t_read (x_T I) n x).2.1 (t_read (x_T I) n x).1) J) ∧ x_Dr 9 I2 (t_read (x_T I) n x).2.2 ∧ x_fr 9 I I2 := by
  intro n
  induction n with
  | zero =>
    intro i x I hl h hx hD
    obtain rfl : i = 200 := by omega
    exact ⟨I, x_rdZ9, hD, fun _ _ _ => rfl⟩
  | succ n ih =>
    intro i x I hl h hx hD
    have ht := x_T_end hl hl2
    unfold t_read
    by_cases h1 : x.1 = 0
    · rw [if_pos h1]
      by_cases h2 : x.2.1.2.1 = 0
      · rw [if_pos h2]
        refine ⟨I, ?_, hD, fun _ _ _ => rfl⟩
        unfold y_R
        rw [h1, h2]
        exact x_rdB9 (by omega)
      · rw [if_neg h2]
        have hk : ¬ nI x.2.1.2.1 = 0 := fun e => h2 ((nI_eq (b := 0) (by have := hx.2.1; omega) (by decide)).mp e)
        obtain ⟨I1, g1, hD1, hf1⟩ := x_readLaw9 (d := d) (sw := sw) (gc := gc) (J := J) hl hl2 hx.1 (hx.2.2 h1) hx.2.1 hD
        obtain ⟨hp1, hk1⟩ := t_law_l (D := x.2.2) ht hx.1 hx.2.1
        have hl1 : I1 2 1 = nI l := (hf1 2 1 (by omega)).trans hl
        have eT : x_T I1 = x_T I := x_T_fr (b := 9) (by decide) hf1
        have hq := t_q_l ht hp1
        have hs : GM (d + 7) 34 [.ref 1] (qS sw gc (y_R I1 (t_law (x_T I) x.2.2 x.2.1).2.1 (t_law (x_T I) x.2.2 x.2.1).1) J) none (qS sw gc (y_R I1 (t_step (x_T I) x).2.1 (t_step (x_T I) x).1) J) ∧ (t_step (x_T I) x).2.2 = (t_law (x_T I) x.2.2 x.2.1).2.2 := by
          unfold t_step
          by_cases h3 : (t_law (x_T I) x.2.2 x.2.1).1 = 0
          · rw [if_pos h3, h3]
            have g := x_readToken (d := d + 1) (sw := sw) (gc := gc) (J := J) (I := I1) hl1 hl2 (p := (t_law (x_T I) x.2.2 x.2.1).2.1.1) (q := t_q (x_T I) (t_law (x_T I) x.2.2 x.2.1).2.1.1) (by omega) (by rw [eT]) (by omega) (b := nI (t_law (x_T I) x.2.2 x.2.1).2.1.2.1) (c := (t_law (x_T I) x.2.2 x.2.1).2.1.2.2.1) (e := nI (t_law (x_T I) x.2.2 x.2.1).2.1.2.2.2)
            rw [eT] at g
            exact ⟨g, rfl⟩
          · rw [if_neg h3]
            exact ⟨x_readTokenF h3, rfl⟩
        obtain ⟨I2, g2, hD2, hf2⟩ := ih (i + 1) (t_step (x_T I) x) I1 hl1 (by omega) (t_step_ok ht hx) (hs.2 ▸ hD1)
        rw [eT] at g2 hD2
        refine ⟨I2, ?_, hD2, x_fr_tr hf1 hf2⟩
        have e : y_R I x.2.1 x.1 = y_R I x.2.1 0 := by rw [h1]
        rw [e]
        exact x_rdC9 (by omega) hk g1 hs.1 g2
    · rw [if_neg h1]
      exact ⟨I, x_rdA9 (by omega) h1, hD, fun _ _ _ => rfl⟩
theorem x_rdS9 {d : Nat} {sw : Bool} {gc : Nat} {I : Nat → Nat → Int32} {J : Nat → Nat → Int64} {l : Nat} (hl : I 2 1 = nI l) (hl2 : l ≤ 200) {Iz : Nat → Nat → Int32} {a k v f e : Int32} {r : Int32} {q : Nat} (hq : t_q (x_T I) 0 = q) (hq4 : q ≤ 400) (H : G (d + 8) 31 (16, [some (.ref 1), some (.ref 9), some (.int (0))], [], qS sw gc (x_R I (nI (t_n (x_T I) q)) (nI (t_k (x_T I q))) (t_v (x_T I) q v) (t_e (x_T I) q) (nI q)) J) (some (.int r)) (qS sw gc Iz J)) : GM (d + 8) 31 [.ref 1, .ref 9] (qS sw gc (x_R I a k v f e) J) (some (.int r)) (qS sw gc Iz J) := by
  refine GM_of (by decide) x_out_n (Nat.le_of_ble_eq_true rfl) trivial ?_
  refine G_st (L := 89) (k := 7) (11, [some (.ref 1), some (.ref 9), none], [.ref 1], qS sw gc (q_u (q_u (x_R I a k v f e) 1 1 0) 1 4 0) J) (q_hn _ _ _ _) rfl ?_
  rw [x_R1]
  rw [x_R4]
  refine G_callV (b := 1) (ci := 3) (as := []) (rest := []) rfl rfl rfl (q_lt (by decide)) (by decide) rfl rfl (Nat.le_of_ble_eq_true rfl) (x_readToken (p := 0) hl hl2 (by decide) hq hq4) x_out_n ?_
  refine G_st (L := 89) (k := 2) (16, [some (.ref 1), some (.ref 9), some (.int 0)], [], qS sw gc (x_R I (nI (t_n (x_T I) q)) (nI (t_k (x_T I q))) (t_v (x_T I) q v) (t_e (x_T I) q) (nI q)) J) (q_hn _ _ _ _) rfl ?_
  exact H
theorem x_read9 {d : Nat} {sw : Bool} {gc : Nat} {I : Nat → Nat → Int32} {J : Nat → Nat → Int64} {l : Nat} (hl : I 2 1 = nI l) (hl2 : l ≤ 200) {D : t_D} (hD : x_Dr 9 I D) : ∃ I2, GM (d + 8) 31 [.ref 1, .ref 9] (qS sw gc I J) (some (.int (t_read (x_T I) 200 (t_er (x_T I) (t_S0 (I 1 3)), t_tok (x_T I) (t_S0 (I 1 3)), D)).1)) (qS sw gc (y_R I2 (t_read (x_T I) 200 (t_er (x_T I) (t_S0 (I 1 3)), t_tok (x_T I) (t_S0 (I 1 3)), D)).2.1 (t_read (x_T I) 200 (t_er (x_T I) (t_S0 (I 1 3)), t_tok (x_T I) (t_S0 (I 1 3)), D)).1) J) ∧ x_Dr 9 I2 (t_read (x_T I) 200 (t_er (x_T I) (t_S0 (I 1 3)), t_tok (x_T I) (t_S0 (I 1 3)), D)).2.2 ∧ x_fr 9 I I2 := by
  have ht := x_T_end hl hl2
  have hq : t_q (x_T I) 0 ≤ l := t_q_l ht (Nat.zero_le _)
  obtain ⟨I2, g, h⟩ := x_read_loop9 (d := d) (sw := sw) (gc := gc) (J := J) hl2 200 0 (t_er (x_T I) (t_S0 (I 1 3)), t_tok (x_T I) (t_S0 (I 1 3)), D) I hl rfl ⟨t_tok_l ht (Nat.zero_le _), t_tok_k _ _, fun e k => t_tok_name e k⟩ hD
  refine ⟨I2, ?_, h⟩
  have e := x_R_id I
  have g2 := x_rdS9 (d := d) (sw := sw) (gc := gc) (J := J) hl hl2 (a := I 1 1) (k := I 1 2) (v := I 1 3) (f := I 1 4) (e := I 1 5) rfl (by omega) g
  rw [e] at g2
  exact g2
def x_fgt4 (I : Nat → Nat → Int32) : Nat → Nat → Int32 := q_u (q_u (q_u (q_u (q_u (q_u (q_u (q_u (q_u (q_u I 5 0 (-4)) 6 0 0) 5 1 (-4)) 6 1 0) 5 2 0) 6 2 0) 5 3 0) 6 3 0) 4 4 0) 4 5 0
theorem x_forget4 {d : Nat} {sw : Bool} {gc : Nat} {I : Nat → Nat → Int32} {J : Nat → Nat → Int64} : GM d 20 [.ref 4] (qS sw gc I J) (none) (qS sw gc (x_fgt4 I) J) := by
  refine GM_of (by decide) (Nat.le_refl _) (Nat.le_of_ble_eq_true rfl) trivial ?_
  refine G_st (L := 89) (k := 0) (0, [some (.ref 4), none], [], qS sw gc I J) (q_hn _ _ _ _) rfl ?_
  refine G_st (L := 89) (k := 4) (4, [some (.ref 4), some (.int 0)], [.int 4, .int 0], qS sw gc I J) (q_hn _ _ _ _) rfl ?_
  refine G_icmp_ge 31 rfl rfl (fun h9 => absurd h9 (by decide)) (fun _ => ?_)
  refine G_st (L := 89) (k := 3) (12, [some (.ref 4), some (.int 0)], [.int 0, .ref 5], qS sw gc I J) (q_hn _ _ _ _) rfl ?_
  refine G_gets rfl rfl ?_
  refine G_st (L := 89) (k := 1) (16, [some (.ref 4), some (.int 0)], [.int 0, .float 0, .int 0, .ref 5], qS sw gc I J) (q_hn _ _ _ _) rfl ?_
  refine G_ialdK (q := (0, "UNTOLD", 4, [-4, -4, 0, 0])) rfl (by decide) rfl (by unfold vp_in; decide) rfl ?_
  refine G_st (L := 89) (k := 0) (17, [some (.ref 4), some (.int 0)], [.int (-4), .int 0, .ref 5], qS sw gc I J) (q_hn _ _ _ _) rfl ?_
  refine G_iast (i := 5) (n := 4) rfl rfl (q_lt (by decide)) (by unfold vp_in; decide) ?_
  refine G_st (L := 89) (k := 4) (24, [some (.ref 4), some (.int 0)], [.int 0, .int 0, .ref 6], qS sw gc (q_u I 5 0 (-4)) J) (q_hn _ _ _ _) rfl ?_
  refine G_zast (i := 6) (n := 4) rfl rfl (q_lt (by decide)) (by unfold vp_in; decide) ?_
  refine G_st (L := 89) (k := 4) (4, [some (.ref 4), some (.int 1)], [.int 4, .int 1], qS sw gc (q_u (q_u I 5 0 (-4)) 6 0 0) J) (q_hn _ _ _ _) rfl ?_
  refine G_icmp_ge 31 rfl rfl (fun h9 => absurd h9 (by decide)) (fun _ => ?_)
  refine G_st (L := 89) (k := 3) (12, [some (.ref 4), some (.int 1)], [.int 1, .ref 5], qS sw gc (q_u (q_u I 5 0 (-4)) 6 0 0) J) (q_hn _ _ _ _) rfl ?_
  refine G_gets rfl rfl ?_
  refine G_st (L := 89) (k := 1) (16, [some (.ref 4), some (.int 1)], [.int 1, .float 0, .int 1, .ref 5], qS sw gc (q_u (q_u I 5 0 (-4)) 6 0 0) J) (q_hn _ _ _ _) rfl ?_
  refine G_ialdK (q := (0, "UNTOLD", 4, [-4, -4, 0, 0])) rfl (by decide) rfl (by unfold vp_in; decide) rfl ?_
  refine G_st (L := 89) (k := 0) (17, [some (.ref 4), some (.int 1)], [.int (-4), .int 1, .ref 5], qS sw gc (q_u (q_u I 5 0 (-4)) 6 0 0) J) (q_hn _ _ _ _) rfl ?_
  refine G_iast (i := 5) (n := 4) rfl rfl (q_lt (by decide)) (by unfold vp_in; decide) ?_
  refine G_st (L := 89) (k := 4) (24, [some (.ref 4), some (.int 1)], [.int 0, .int 1, .ref 6], qS sw gc (q_u (q_u (q_u I 5 0 (-4)) 6 0 0) 5 1 (-4)) J) (q_hn _ _ _ _) rfl ?_
  refine G_zast (i := 6) (n := 4) rfl rfl (q_lt (by decide)) (by unfold vp_in; decide) ?_
  refine G_st (L := 89) (k := 4) (4, [some (.ref 4), some (.int 2)], [.int 4, .int 2], qS sw gc (q_u (q_u (q_u (q_u I 5 0 (-4)) 6 0 0) 5 1 (-4)) 6 1 0) J) (q_hn _ _ _ _) rfl ?_
  refine G_icmp_ge 31 rfl rfl (fun h9 => absurd h9 (by decide)) (fun _ => ?_)
  refine G_st (L := 89) (k := 3) (12, [some (.ref 4), some (.int 2)], [.int 2, .ref 5], qS sw gc (q_u (q_u (q_u (q_u I 5 0 (-4)) 6 0 0) 5 1 (-4)) 6 1 0) J) (q_hn _ _ _ _) rfl ?_
  refine G_gets rfl rfl ?_
  refine G_st (L := 89) (k := 1) (16, [some (.ref 4), some (.int 2)], [.int 2, .float 0, .int 2, .ref 5], qS sw gc (q_u (q_u (q_u (q_u I 5 0 (-4)) 6 0 0) 5 1 (-4)) 6 1 0) J) (q_hn _ _ _ _) rfl ?_
  refine G_ialdK (q := (0, "UNTOLD", 4, [-4, -4, 0, 0])) rfl (by decide) rfl (by unfold vp_in; decide) rfl ?_
  refine G_st (L := 89) (k := 0) (17, [some (.ref 4), some (.int 2)], [.int 0, .int 2, .ref 5], qS sw gc (q_u (q_u (q_u (q_u I 5 0 (-4)) 6 0 0) 5 1 (-4)) 6 1 0) J) (q_hn _ _ _ _) rfl ?_
  refine G_iast (i := 5) (n := 4) rfl rfl (q_lt (by decide)) (by unfold vp_in; decide) ?_
  refine G_st (L := 89) (k := 4) (24, [some (.ref 4), some (.int 2)], [.int 0, .int 2, .ref 6], qS sw gc (q_u (q_u (q_u (q_u (q_u I 5 0 (-4)) 6 0 0) 5 1 (-4)) 6 1 0) 5 2 0) J) (q_hn _ _ _ _) rfl ?_
  refine G_zast (i := 6) (n := 4) rfl rfl (q_lt (by decide)) (by unfold vp_in; decide) ?_
  refine G_st (L := 89) (k := 4) (4, [some (.ref 4), some (.int 3)], [.int 4, .int 3], qS sw gc (q_u (q_u (q_u (q_u (q_u (q_u I 5 0 (-4)) 6 0 0) 5 1 (-4)) 6 1 0) 5 2 0) 6 2 0) J) (q_hn _ _ _ _) rfl ?_
  refine G_icmp_ge 31 rfl rfl (fun h9 => absurd h9 (by decide)) (fun _ => ?_)
  refine G_st (L := 89) (k := 3) (12, [some (.ref 4), some (.int 3)], [.int 3, .ref 5], qS sw gc (q_u (q_u (q_u (q_u (q_u (q_u I 5 0 (-4)) 6 0 0) 5 1 (-4)) 6 1 0) 5 2 0) 6 2 0) J) (q_hn _ _ _ _) rfl ?_
  refine G_gets rfl rfl ?_
  refine G_st (L := 89) (k := 1) (16, [some (.ref 4), some (.int 3)], [.int 3, .float 0, .int 3, .ref 5], qS sw gc (q_u (q_u (q_u (q_u (q_u (q_u I 5 0 (-4)) 6 0 0) 5 1 (-4)) 6 1 0) 5 2 0) 6 2 0) J) (q_hn _ _ _ _) rfl ?_
  refine G_ialdK (q := (0, "UNTOLD", 4, [-4, -4, 0, 0])) rfl (by decide) rfl (by unfold vp_in; decide) rfl ?_
  refine G_st (L := 89) (k := 0) (17, [some (.ref 4), some (.int 3)], [.int 0, .int 3, .ref 5], qS sw gc (q_u (q_u (q_u (q_u (q_u (q_u I 5 0 (-4)) 6 0 0) 5 1 (-4)) 6 1 0) 5 2 0) 6 2 0) J) (q_hn _ _ _ _) rfl ?_
  refine G_iast (i := 5) (n := 4) rfl rfl (q_lt (by decide)) (by unfold vp_in; decide) ?_
  refine G_st (L := 89) (k := 4) (24, [some (.ref 4), some (.int 3)], [.int 0, .int 3, .ref 6], qS sw gc (q_u (q_u (q_u (q_u (q_u (q_u (q_u I 5 0 (-4)) 6 0 0) 5 1 (-4)) 6 1 0) 5 2 0) 6 2 0) 5 3 0) J) (q_hn _ _ _ _) rfl ?_
  refine G_zast (i := 6) (n := 4) rfl rfl (q_lt (by decide)) (by unfold vp_in; decide) ?_
  refine G_st (L := 89) (k := 4) (4, [some (.ref 4), some (.int 4)], [.int 4, .int 4], qS sw gc (q_u (q_u (q_u (q_u (q_u (q_u (q_u (q_u I 5 0 (-4)) 6 0 0) 5 1 (-4)) 6 1 0) 5 2 0) 6 2 0) 5 3 0) 6 3 0) J) (q_hn _ _ _ _) rfl ?_
  refine G_icmp_ge 31 rfl rfl (fun _ => ?_) (fun h9 => absurd h9 (by decide))
  refine G_st (L := 89) (k := 6) (41, [some (.ref 4), some (.int 4)], [], qS sw gc (q_u (q_u (q_u (q_u (q_u (q_u (q_u (q_u (q_u (q_u I 5 0 (-4)) 6 0 0) 5 1 (-4)) 6 1 0) 5 2 0) 6 2 0) 5 3 0) 6 3 0) 4 4 0) 4 5 0) J) (q_hn _ _ _ _) rfl ?_
  exact G_ret rfl rfl rfl rfl
theorem x_fgt_fr4 {I : Nat → Nat → Int32} : x_fr 4 I (x_fgt4 I) := by
  intro i j h
  unfold x_fgt4
  repeat rw [q_un _ _ (by omega)]
theorem x_fgt_Dr4 {I : Nat → Nat → Int32} {D : t_D} : x_Dr 4 (x_fgt4 I) ((fun _ => -4), 0, D.2.2) := by
  refine ⟨?_, rfl, Nat.zero_le _, fun j hj => absurd hj (Nat.not_lt_zero _), rfl⟩
  intro k hk
  have : k = 0 ∨ k = 1 ∨ k = 2 ∨ k = 3 := by omega
  rcases this with rfl | rfl | rfl | rfl <;> exact Or.inl ⟨rfl, rfl, rfl⟩
def x_fgt9 (I : Nat → Nat → Int32) : Nat → Nat → Int32 := q_u (q_u (q_u (q_u (q_u (q_u (q_u (q_u (q_u (q_u I 10 0 (-4)) 11 0 0) 10 1 (-4)) 11 1 0) 10 2 0) 11 2 0) 10 3 0) 11 3 0) 9 4 0) 9 5 0
theorem x_forget9 {d : Nat} {sw : Bool} {gc : Nat} {I : Nat → Nat → Int32} {J : Nat → Nat → Int64} : GM d 20 [.ref 9] (qS sw gc I J) (none) (qS sw gc (x_fgt9 I) J) := by
  refine GM_of (by decide) (Nat.le_refl _) (Nat.le_of_ble_eq_true rfl) trivial ?_
  refine G_st (L := 89) (k := 0) (0, [some (.ref 9), none], [], qS sw gc I J) (q_hn _ _ _ _) rfl ?_
  refine G_st (L := 89) (k := 4) (4, [some (.ref 9), some (.int 0)], [.int 4, .int 0], qS sw gc I J) (q_hn _ _ _ _) rfl ?_
  refine G_icmp_ge 31 rfl rfl (fun h9 => absurd h9 (by decide)) (fun _ => ?_)
  refine G_st (L := 89) (k := 3) (12, [some (.ref 9), some (.int 0)], [.int 0, .ref 10], qS sw gc I J) (q_hn _ _ _ _) rfl ?_
  refine G_gets rfl rfl ?_
  refine G_st (L := 89) (k := 1) (16, [some (.ref 9), some (.int 0)], [.int 0, .float 0, .int 0, .ref 10], qS sw gc I J) (q_hn _ _ _ _) rfl ?_
  refine G_ialdK (q := (0, "UNTOLD", 4, [-4, -4, 0, 0])) rfl (by decide) rfl (by unfold vp_in; decide) rfl ?_
  refine G_st (L := 89) (k := 0) (17, [some (.ref 9), some (.int 0)], [.int (-4), .int 0, .ref 10], qS sw gc I J) (q_hn _ _ _ _) rfl ?_
  refine G_iast (i := 10) (n := 4) rfl rfl (q_lt (by decide)) (by unfold vp_in; decide) ?_
  refine G_st (L := 89) (k := 4) (24, [some (.ref 9), some (.int 0)], [.int 0, .int 0, .ref 11], qS sw gc (q_u I 10 0 (-4)) J) (q_hn _ _ _ _) rfl ?_
  refine G_zast (i := 11) (n := 4) rfl rfl (q_lt (by decide)) (by unfold vp_in; decide) ?_
  refine G_st (L := 89) (k := 4) (4, [some (.ref 9), some (.int 1)], [.int 4, .int 1], qS sw gc (q_u (q_u I 10 0 (-4)) 11 0 0) J) (q_hn _ _ _ _) rfl ?_
  refine G_icmp_ge 31 rfl rfl (fun h9 => absurd h9 (by decide)) (fun _ => ?_)
  refine G_st (L := 89) (k := 3) (12, [some (.ref 9), some (.int 1)], [.int 1, .ref 10], qS sw gc (q_u (q_u I 10 0 (-4)) 11 0 0) J) (q_hn _ _ _ _) rfl ?_
  refine G_gets rfl rfl ?_
  refine G_st (L := 89) (k := 1) (16, [some (.ref 9), some (.int 1)], [.int 1, .float 0, .int 1, .ref 10], qS sw gc (q_u (q_u I 10 0 (-4)) 11 0 0) J) (q_hn _ _ _ _) rfl ?_
  refine G_ialdK (q := (0, "UNTOLD", 4, [-4, -4, 0, 0])) rfl (by decide) rfl (by unfold vp_in; decide) rfl ?_
  refine G_st (L := 89) (k := 0) (17, [some (.ref 9), some (.int 1)], [.int (-4), .int 1, .ref 10], qS sw gc (q_u (q_u I 10 0 (-4)) 11 0 0) J) (q_hn _ _ _ _) rfl ?_
  refine G_iast (i := 10) (n := 4) rfl rfl (q_lt (by decide)) (by unfold vp_in; decide) ?_
  refine G_st (L := 89) (k := 4) (24, [some (.ref 9), some (.int 1)], [.int 0, .int 1, .ref 11], qS sw gc (q_u (q_u (q_u I 10 0 (-4)) 11 0 0) 10 1 (-4)) J) (q_hn _ _ _ _) rfl ?_
  refine G_zast (i := 11) (n := 4) rfl rfl (q_lt (by decide)) (by unfold vp_in; decide) ?_
  refine G_st (L := 89) (k := 4) (4, [some (.ref 9), some (.int 2)], [.int 4, .int 2], qS sw gc (q_u (q_u (q_u (q_u I 10 0 (-4)) 11 0 0) 10 1 (-4)) 11 1 0) J) (q_hn _ _ _ _) rfl ?_
  refine G_icmp_ge 31 rfl rfl (fun h9 => absurd h9 (by decide)) (fun _ => ?_)
  refine G_st (L := 89) (k := 3) (12, [some (.ref 9), some (.int 2)], [.int 2, .ref 10], qS sw gc (q_u (q_u (q_u (q_u I 10 0 (-4)) 11 0 0) 10 1 (-4)) 11 1 0) J) (q_hn _ _ _ _) rfl ?_
  refine G_gets rfl rfl ?_
  refine G_st (L := 89) (k := 1) (16, [some (.ref 9), some (.int 2)], [.int 2, .float 0, .int 2, .ref 10], qS sw gc (q_u (q_u (q_u (q_u I 10 0 (-4)) 11 0 0) 10 1 (-4)) 11 1 0) J) (q_hn _ _ _ _) rfl ?_
  refine G_ialdK (q := (0, "UNTOLD", 4, [-4, -4, 0, 0])) rfl (by decide) rfl (by unfold vp_in; decide) rfl ?_
  refine G_st (L := 89) (k := 0) (17, [some (.ref 9), some (.int 2)], [.int 0, .int 2, .ref 10], qS sw gc (q_u (q_u (q_u (q_u I 10 0 (-4)) 11 0 0) 10 1 (-4)) 11 1 0) J) (q_hn _ _ _ _) rfl ?_
  refine G_iast (i := 10) (n := 4) rfl rfl (q_lt (by decide)) (by unfold vp_in; decide) ?_
  refine G_st (L := 89) (k := 4) (24, [some (.ref 9), some (.int 2)], [.int 0, .int 2, .ref 11], qS sw gc (q_u (q_u (q_u (q_u (q_u I 10 0 (-4)) 11 0 0) 10 1 (-4)) 11 1 0) 10 2 0) J) (q_hn _ _ _ _) rfl ?_
  refine G_zast (i := 11) (n := 4) rfl rfl (q_lt (by decide)) (by unfold vp_in; decide) ?_
  refine G_st (L := 89) (k := 4) (4, [some (.ref 9), some (.int 3)], [.int 4, .int 3], qS sw gc (q_u (q_u (q_u (q_u (q_u (q_u I 10 0 (-4)) 11 0 0) 10 1 (-4)) 11 1 0) 10 2 0) 11 2 0) J) (q_hn _ _ _ _) rfl ?_
  refine G_icmp_ge 31 rfl rfl (fun h9 => absurd h9 (by decide)) (fun _ => ?_)
  refine G_st (L := 89) (k := 3) (12, [some (.ref 9), some (.int 3)], [.int 3, .ref 10], qS sw gc (q_u (q_u (q_u (q_u (q_u (q_u I 10 0 (-4)) 11 0 0) 10 1 (-4)) 11 1 0) 10 2 0) 11 2 0) J) (q_hn _ _ _ _) rfl ?_
  refine G_gets rfl rfl ?_
  refine G_st (L := 89) (k := 1) (16, [some (.ref 9), some (.int 3)], [.int 3, .float 0, .int 3, .ref 10], qS sw gc (q_u (q_u (q_u (q_u (q_u (q_u I 10 0 (-4)) 11 0 0) 10 1 (-4)) 11 1 0) 10 2 0) 11 2 0) J) (q_hn _ _ _ _) rfl ?_
  refine G_ialdK (q := (0, "UNTOLD", 4, [-4, -4, 0, 0])) rfl (by decide) rfl (by unfold vp_in; decide) rfl ?_
  refine G_st (L := 89) (k := 0) (17, [some (.ref 9), some (.int 3)], [.int 0, .int 3, .ref 10], qS sw gc (q_u (q_u (q_u (q_u (q_u (q_u I 10 0 (-4)) 11 0 0) 10 1 (-4)) 11 1 0) 10 2 0) 11 2 0) J) (q_hn _ _ _ _) rfl ?_
  refine G_iast (i := 10) (n := 4) rfl rfl (q_lt (by decide)) (by unfold vp_in; decide) ?_
  refine G_st (L := 89) (k := 4) (24, [some (.ref 9), some (.int 3)], [.int 0, .int 3, .ref 11], qS sw gc (q_u (q_u (q_u (q_u (q_u (q_u (q_u I 10 0 (-4)) 11 0 0) 10 1 (-4)) 11 1 0) 10 2 0) 11 2 0) 10 3 0) J) (q_hn _ _ _ _) rfl ?_
  refine G_zast (i := 11) (n := 4) rfl rfl (q_lt (by decide)) (by unfold vp_in; decide) ?_
  refine G_st (L := 89) (k := 4) (4, [some (.ref 9), some (.int 4)], [.int 4, .int 4], qS sw gc (q_u (q_u (q_u (q_u (q_u (q_u (q_u (q_u I 10 0 (-4)) 11 0 0) 10 1 (-4)) 11 1 0) 10 2 0) 11 2 0) 10 3 0) 11 3 0) J) (q_hn _ _ _ _) rfl ?_
  refine G_icmp_ge 31 rfl rfl (fun _ => ?_) (fun h9 => absurd h9 (by decide))
  refine G_st (L := 89) (k := 6) (41, [some (.ref 9), some (.int 4)], [], qS sw gc (q_u (q_u (q_u (q_u (q_u (q_u (q_u (q_u (q_u (q_u I 10 0 (-4)) 11 0 0) 10 1 (-4)) 11 1 0) 10 2 0) 11 2 0) 10 3 0) 11 3 0) 9 4 0) 9 5 0) J) (q_hn _ _ _ _) rfl ?_
  exact G_ret rfl rfl rfl rfl
theorem x_fgt_fr9 {I : Nat → Nat → Int32} : x_fr 9 I (x_fgt9 I) := by
  intro i j h
  unfold x_fgt9
  repeat rw [q_un _ _ (by omega)]
theorem x_fgt_Dr9 {I : Nat → Nat → Int32} {D : t_D} : x_Dr 9 (x_fgt9 I) ((fun _ => -4), 0, D.2.2) := by
  refine ⟨?_, rfl, Nat.zero_le _, fun j hj => absurd hj (Nat.not_lt_zero _), rfl⟩
  intro k hk
  have : k = 0 ∨ k = 1 ∨ k = 2 ∨ k = 3 := by omega
  rcases this with rfl | rfl | rfl | rfl <;> exact Or.inl ⟨rfl, rfl, rfl⟩
