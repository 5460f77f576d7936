theorem x_wb_62 {sw : Bool} {I : Nat → Nat → Int32} {L : Nat → Nat} {n len : Nat} {F : Int64} {w k c : Nat} (hw : w < 30) {i j : Nat} (h1 : 62 ≤ i) (h2 : i ≤ 88) : x_wb sw I L n len F w k c i j = I i j := by
  unfold x_wb x_wC
  rw [x_tp_un (by omega), q_un _ _ (by omega), x_wB_un2 _ _ _ (by omega), x_wA_un (by omega)]
theorem r_mayN_c {I K : Nat → Nat → Int32} (h : ∀ w, K 72 w = I 72 w) : ∀ (n w : Nat), r_mayN K n w = r_mayN I n w
  | 0, _ => rfl
  | n + 1, w => by
    unfold r_mayN r_ls
    rw [h w, r_mayN_c h n (w + 6)]
theorem s_work (x y : Int32) (F : Int64) : s_Stp 85 138 [.int x, .int y, .long F] := by
  intro d sw gc I J h
  obtain ⟨hg, hgc, hmg, hgk⟩ := h.2.2.2.1
  rcases s_gi hg x with ⟨k, hk, rfl⟩ | hx
  · rcases s_block01 (Int32.toInt64 y) F with hb | hb
    · obtain ⟨len, l1, l2, e⟩ := s_block1 hb
      obtain rfl := s_len e l2
      rw [e] at hb
      have hbr : f_r_isBlock (lN len) F = 1 := s_block _ _ ▸ hb
      obtain ⟨gs, gm, gk⟩ := hgk k hk
      rcases gm.2 with h4 | ⟨w, hw, h4⟩
      · exact s_keep h (x_workN (d := d + 7) hgc hg hk hb l2 (gs.2.2.2.1.trans h4)) (r_workN (d := d + 9) hmg hg l2 hk hbr h4)
      · have hmy := s_may h.2.2.1 w
        cases hmay : r_may I w with
        | false => exact s_keep h (x_workM (d := d + 7) hgc hg hk hb l2 hw (gs.2.2.2.1.trans h4) (hmy.trans hmay)) (r_workM (d := d + 9) hmg hg l2 hk hbr hw h4 hmay)
        | true =>
          obtain ⟨n, L, P, z1, z2, z3, z4⟩ := h.2.2.2.2.2.2.2.1
          obtain ⟨c, c4, p1, p2, p3⟩ := s_pnd h.2.1
          have X := x_work (d := d + 7) (sw := sw) (J := J) z1 l2 l1 hb hk hg hgc hw (gs.2.2.2.1.trans h4) p2 c4 (hmy.trans hmay)
          have u := fun i j (a1 : 62 ≤ i) (a2 : i ≤ 88) => x_wb_62 (sw := sw) (I := I) (L := L) (n := n) (len := len) (F := F) (k := k) (c := c) hw (i := i) (j := j) a1 a2
          obtain ⟨e1, hR⟩ := s_wk (F := F) h z1 z2 z3 z4 hk hw h4 l2 p3
          have R := r_work (d := d + 9) (sw := sw) (gc := gc) (J := J) (I := x_wb sw I L n len F w k c) (r_Sz_c z2 (fun i j hi => u i j (by omega) (by omega))) l2 l1 (show k < 8 by omega) hw ((u 77 k (by omega) (by omega)).trans h4) ((u 62 9 (by omega) (by omega)).trans p1) c4 ((u 62 20 (by omega) (by omega)).trans hmg) hg hk hbr ((r_mayN_c (fun w => u 72 w (by omega) (by omega)) 6 w).trans hmay)
          rw [e1] at R
          exact ⟨_, sw, gc, _, J, _, J, Nat.le_refl _, X, R, hR⟩
    · exact s_keep h (x_workB (d := d + 7) hgc hg hk hb) (r_workB (d := d + 9) hmg hg hk (s_block _ _ ▸ hb))
  · exact s_keep h (x_workG (d := d + 7) hgc hg hx) (r_workG (d := d + 9) hmg hg hx)
/-! ===== rows of the class alone, rows of the reference alone ===== -/
def s_eqc (A B : Nat → Nat → Int32) : Prop := ∀ i j, ¬ (62 ≤ i ∧ i ≤ 88) → A i j = B i j
def s_eqm (A B : Nat → Nat → Int32) : Prop := ∀ i j, 62 ≤ i ∧ i ≤ 88 → A i j = B i j
theorem s_eqc_u {A B : Nat → Nat → Int32} (h : s_eqc A B) {r q : Nat} {x y : Int32} (e : x = y) : s_eqc (q_u A r q x) (q_u B r q y) := by
  intro i j hi
  subst e
  by_cases h1 : i = r ∧ j = q
  · rw [h1.1, h1.2, q_us, q_us]
  · rw [q_un _ _ h1, q_un _ _ h1]; exact h i j hi
theorem s_eqm_u {A B : Nat → Nat → Int32} (h : s_eqm A B) {r q : Nat} {x y : Int32} (e : x = y) : s_eqm (q_u A r q x) (q_u B r q y) := by
  intro i j hi
  subst e
  by_cases h1 : i = r ∧ j = q
  · rw [h1.1, h1.2, q_us, q_us]
  · rw [q_un _ _ h1, q_un _ _ h1]; exact h i j hi
theorem x_mw_c {A B : Nat → Nat → Int32} (h : s_eqc A B) {L : Nat → Nat} {len : Nat} {F : Int64} {p k : Nat} : x_mw A L len F p k = x_mw B L len F p k := by
  unfold x_mw
  rw [h 48 k (by omega), h 49 k (by omega), h 51 _ (by omega)]
theorem x_inN_c {A B : Nat → Nat → Int32} (h : s_eqc A B) {L : Nat → Nat} {len : Nat} {F : Int64} {p : Nat} : ∀ (m k : Nat) (a : Int32), x_inN A L len F p m k a = x_inN B L len F p m k a
  | 0, _, _ => rfl
  | m + 1, k, a => by
    unfold x_inN
    rw [x_mw_c h, x_inN_c h m (k + 1)]
theorem x_out_c {L : Nat → Nat} {n len : Nat} {F : Int64} : ∀ (p : Nat) (A B : Nat → Nat → Int32), s_eqc A B → s_eqc (x_out L n len F p A) (x_out L n len F p B)
  | 0, _, _, h => h
  | p + 1, A, B, h => by
    unfold x_out
    refine x_out_c p _ _ (s_eqc_u h ?_)
    rw [x_inN_c h, h 51 _ (by omega)]
theorem x_mo_c {A B : Nat → Nat → Int32} (h : s_eqc A B) {L : Nat → Nat} {n len : Nat} {F : Int64} : s_eqc (x_mo A L n len F) (x_mo B L n len F) := by
  unfold x_mo
  exact x_out_c len _ _ (s_eqc_u h rfl)
theorem x_pkN_c {A B : Nat → Nat → Int32} (h : s_eqc A B) {L : Nat → Nat} {len : Nat} {F : Int64} {p : Nat} : ∀ (m k : Nat), x_pkN A L len F p m k = x_pkN B L len F p m k
  | 0, _ => rfl
  | m + 1, k => by
    unfold x_pkN
    rw [x_mw_c h, h 51 p (by omega), x_pkN_c h m (k + 1)]
theorem x_pcs_c {A B : Nat → Nat → Int32} (h : s_eqc A B) {L : Nat → Nat} {n len : Nat} {F : Int64} : x_pcs A L n len F = x_pcs B L n len F := q_psl_c (fun p _ => x_pkN_c (x_mo_c h) n 0) len 0
theorem x_putP_c : ∀ (l : List (Option Nat)) (i : Nat) (A B : Nat → Nat → Int32), s_eqc A B → s_eqc (x_putP l i A) (x_putP l i B)
  | [], _, _, _, h => h
  | none :: t, i, A, B, h => by
    unfold x_putP
    exact x_putP_c t (i + 1) _ _ (s_eqc_u (s_eqc_u (s_eqc_u h rfl) (by rw [h 47 6 (by omega)])) (by rw [h 47 7 (by omega)]))
  | some k :: t, i, A, B, h => by
    unfold x_putP
    exact x_putP_c t (i + 1) _ _ (s_eqc_u (s_eqc_u h rfl) (by rw [h 47 6 (by omega)]))
theorem x_csl_c : ∀ (l : List (Option Nat)) (A B : Nat → Nat → Int32), s_eqc A B → s_eqc (x_csl l A) (x_csl l B)
  | [], _, _, h => h
  | none :: t, A, B, h => by
    unfold x_csl
    exact x_csl_c t A B h
  | some k :: t, A, B, h => by
    unfold x_csl
    exact x_csl_c t _ _ (s_eqc_u h (by rw [h 50 k (by omega)]))
theorem x_wA_c {A B : Nat → Nat → Int32} (h : s_eqc A B) {L : Nat → Nat} {n len : Nat} {F : Int64} : s_eqc (x_wA A L n len F) (x_wA B L n len F) := by
  unfold x_wA
  rw [x_pcs_c h]
  refine x_csl_c _ _ _ ?_
  show s_eqc (x_putP (x_pcs A L n len F) 0 (x_ct0 A L n len F)) (x_putP (x_pcs B L n len F) 0 (x_ct0 B L n len F))
  rw [x_pcs_c h]
  refine x_putP_c _ _ _ _ ?_
  unfold x_ct0
  exact s_eqc_u (s_eqc_u (s_eqc_u (x_mo_c h) (x_mo_c h 51 0 (by omega))) rfl) rfl
theorem x_loB_c {A B : Nat → Nat → Int32} (h : s_eqc A B) {w : Nat} {z : Int32} (hw : w < 30) : s_eqc (x_loB A w z) (x_loB B w z) := by
  intro i j hi
  rw [x_loB_at, x_loB_at, h (w + 16) 1 (by omega), h (w + 6 + 16) 1 (by omega), h i j hi]
theorem x_num_e {A B : Nat → Nat → Int32} (h : s_eqc A B) {sw : Bool} {k : Nat} : x_num sw A k = x_num sw B k := x_num_c (h 5 k (by omega)) (h 10 k (by omega))
theorem x_wB_c {A B : Nat → Nat → Int32} (h : s_eqc A B) {sw : Bool} {w : Nat} (hw : w < 30) : s_eqc (x_wB sw A w) (x_wB sw B w) := by
  unfold x_wB
  rw [x_num_e h]
  exact x_loB_c (s_eqc_u (s_eqc_u (s_eqc_u h (by rw [h 0 13 (by omega), h 47 7 (by omega)])) (by rw [h 0 12 (by omega)])) (by rw [h (w + 16) 1 (by omega)])) hw
theorem x_tp_c {A B : Nat → Nat → Int32} (h : s_eqc A B) {k : Nat} {p t : Int32} : s_eqc (x_tp A k p t) (x_tp B k p t) := by
  unfold x_tp
  rw [h (2 * k + 89) 7 (by omega), h (2 * k + 89) 2 (by omega), h (2 * k + 89) 1 (by omega), h (2 * k + 89) 6 (by omega)]
  split
  · exact s_eqc_u (s_eqc_u (s_eqc_u (s_eqc_u h rfl) rfl) rfl) rfl
  · exact s_eqc_u (s_eqc_u h rfl) rfl
theorem x_ear_c {A B : Nat → Nat → Int32} (h : s_eqc A B) {sw : Bool} {w k c : Nat} (hw : w < 30) : x_ear sw A w k c = x_ear sw B w k c := by
  unfold x_ear
  rw [h 47 8 (by omega), h (w + 16) 0 (by omega), h (2 * k + 89) 5 (by omega), x_pnd_c (I := B) (K := A) (fun i j hi => h i j (by omega))]
theorem x_clb_c {A B : Nat → Nat → Int32} (h : s_eqc A B) {sw : Bool} {w k c : Nat} (hw : w < 30) : x_clb sw A w k c = x_clb sw B w k c := by
  unfold x_clb
  rw [x_ear_c h hw, x_num_e h]
theorem x_wb_c {A B : Nat → Nat → Int32} (h : s_eqc A B) {sw : Bool} {L : Nat → Nat} {n len : Nat} {F : Int64} {w k c : Nat} (hw : w < 30) : s_eqc (x_wb sw A L n len F w k c) (x_wb sw B L n len F w k c) := by
  unfold x_wb x_wC
  have h1 := x_wB_c (sw := sw) (x_wA_c (L := L) (n := n) (len := len) (F := F) h) hw
  rw [x_ear_c h1 hw, x_clb_c h1 hw, x_num_e h1]
  exact x_tp_c (s_eqc_u h1 (by rw [h1 0 11 (by omega)]))
theorem r_mo_c {A B : Nat → Nat → Int32} (h : s_eqm A B) {L P : Nat → Nat} {n len : Nat} {F : Int64} : s_eqm (r_mo A L P n len F) (r_mo B L P n len F) := by
  intro i j hi
  unfold r_mo
  split
  · rfl
  · exact h i j hi
theorem r_ear_c {A B : Nat → Nat → Int32} (h : s_eqm A B) {w k c : Nat} {e : Int32} : r_ear A w k c e = r_ear B w k c e := by
  unfold r_ear
  rw [h 70 w (by omega), h 78 k (by omega), r_pd_c (I := B) (K := A) (fun j => h 65 j (by omega)) (fun j => h 66 j (by omega))]
theorem r_off_c {A B : Nat → Nat → Int32} (h : s_eqm A B) {w k c : Nat} {e : Int32} : r_off A w k c e = r_off B w k c e := by
  unfold r_off
  rw [r_ear_c h, r_lo_c (h 64 3 (by omega))]
theorem r_wk1_c {A B : Nat → Nat → Int32} (h : s_eqm A B) {k : Nat} {a o : Int32} : s_eqm (r_wk1 A k a o) (r_wk1 B k a o) := by
  unfold r_wk1
  rw [h 80 k (by omega), h 62 31 (by omega), h 75 k (by omega), h 74 k (by omega), r_lo_c (h 64 2 (by omega))]
  split
  · exact s_eqm_u (s_eqm_u (s_eqm_u (s_eqm_u h rfl) rfl) rfl) rfl
  · exact s_eqm_u (s_eqm_u h rfl) rfl
theorem r_wl_c : ∀ (l : List (Option Nat)) (A B : Nat → Nat → Int32), s_eqm A B → s_eqm (r_wl l A) (r_wl l B)
  | [], _, _, h => h
  | none :: t, A, B, h => by
    unfold r_wl
    exact r_wl_c t _ _ (s_eqm_u h (by rw [h 62 37 (by omega)]))
  | some k :: t, A, B, h => by
    unfold r_wl
    exact r_wl_c t _ _ (s_eqm_u h (by rw [h 84 k (by omega)]))
theorem r_loB_c {A B : Nat → Nat → Int32} (h : s_eqm A B) {w : Nat} : s_eqm (r_loB A w) (r_loB B w) := by
  intro i j hi
  rw [r_loB_at, r_loB_at, h 64 1 (by omega), h 71 w (by omega), h 71 (w + 6) (by omega), h i j hi]
theorem r_wks_c {A B : Nat → Nat → Int32} (h : s_eqm A B) {L P : Nat → Nat} {n len : Nat} {F : Int64} {w k c : Nat} : s_eqm (r_wks A L P n len F w k c) (r_wks B L P n len F w k c) := by
  unfold r_wks r_wk2
  have h0 := r_mo_c (L := L) (P := P) (n := n) (len := len) (F := F) h
  rw [r_ear_c h0, r_off_c h0]
  have h1 := r_wl_c (y_ps L P n F len) _ _ (r_wk1_c (k := k) (a := r_ear (r_mo B L P n len F) w k c (nI (y_dp L P n F len 0))) (o := r_off (r_mo B L P n len F) w k c (nI (y_dp L P n F len 0))) h0)
  exact r_loB_c (s_eqm_u (s_eqm_u (s_eqm_u h1 (by rw [h1 71 w (by omega)])) (by rw [h1 79 k (by omega)])) (by rw [h1 62 36 (by omega)]))
theorem r_wks_un {I : Nat → Nat → Int32} {L P : Nat → Nat} {n len : Nat} {F : Int64} {w k c i j : Nat} (h : ¬ (62 ≤ i ∧ i ≤ 88)) : r_wks I L P n len F w k c i j = I i j := by
  unfold r_wks r_wk2
  rw [r_loB_at, if_neg (by omega), q_un _ _ (by omega), q_un _ _ (by omega), q_un _ _ (by omega), r_wl_un _ _ _ _ (by omega) (by omega), r_wk1_un (by omega), r_mo_un (by omega)]
def s_mx (A B : Nat → Nat → Int32) : Nat → Nat → Int32 := fun i j => if 62 ≤ i ∧ i ≤ 88 then B i j else A i j
theorem s_mx_m {A B : Nat → Nat → Int32} {i j : Nat} (h : 62 ≤ i ∧ i ≤ 88) : s_mx A B i j = B i j := if_pos h
theorem s_mx_c {A B : Nat → Nat → Int32} {i j : Nat} (h : ¬ (62 ≤ i ∧ i ≤ 88)) : s_mx A B i j = A i j := if_neg h
theorem s_mx_id (A : Nat → Nat → Int32) : s_mx A A = A := by
  funext i j
  unfold s_mx
  split <;> rfl
theorem s_mx_wks {Z B : Nat → Nat → Int32} {L P : Nat → Nat} {n len : Nat} {F : Int64} {w k c : Nat} : r_wks (s_mx Z B) L P n len F w k c = s_mx Z (r_wks B L P n len F w k c) := by
  funext i j
  by_cases h : 62 ≤ i ∧ i ≤ 88
  · rw [s_mx_m h]
    exact r_wks_c (fun i j hi => s_mx_m hi) i j h
  · rw [s_mx_c h, r_wks_un h, s_mx_c h]
theorem s_mx_both {sw : Bool} {A B : Nat → Nat → Int32} {L P : Nat → Nat} {n len : Nat} {F : Int64} {w k c : Nat} (hw : w < 30) : r_wks (x_wb sw (s_mx A B) L n len F w k c) L P n len F w k c = s_mx (x_wb sw A L n len F w k c) (r_wks B L P n len F w k c) := by
  funext i j
  by_cases h : 62 ≤ i ∧ i ≤ 88
  · rw [s_mx_m h]
    exact r_wks_c (fun i j hi => (x_wb_62 hw hi.1 hi.2).trans (s_mx_m hi)) i j h
  · rw [s_mx_c h, r_wks_un h]
    exact x_wb_c (fun i j hi => s_mx_c hi) hw i j h
