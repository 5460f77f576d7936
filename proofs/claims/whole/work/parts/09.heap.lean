/-! ===== rules of the judgement G: fields, arrays, new cells, calls, ends ===== -/
theorem G_get {d y pc : Nat} {ll : List (Option Value)} {st : List Value} {M : qM} {r : Option Value} {M' : qM} {idx ci k i : Nat} (hp : q_pg y pc = some (.getfield idx, 3)) (hf : q_fl (q_on y) idx = some (ci, k)) (hs : q_SH i = some (.inl ci)) (hi : i < q_n M) (g : G d y (pc + 3, ll, q_av M i (q_fty ci k) k :: st, M) r M') : G d y (pc, ll, .ref i :: st, M) r M' := by
  refine G_same g fun l D dA kv N0 p e s m args below meth co R Q hX hR H locs ls cells slots hL hW hS kk => ?_
  obtain ⟨hc, hk, hm⟩ := q_fl1 (q_on1 (q_ylt hp)).1 hf
  have hts := hX.2.2.2.2.1
  have hK := hX.2.2.2.2.2.2.1.1
  obtain ⟨cell, q1, q2, q3, q4⟩ := q_at_obj (hW.2 i hi) hs
  obtain ⟨hSl, hfc, kC, hkC, hkind⟩ := hK.1 ci _ (q_clk ci hc)
  obtain ⟨cf, kf, fi, f, hi2, hsl⟩ := hSl k hk
  have k1 := kk ls hL
  rw [List.map_cons, q_cv_av] at k1
  exact W.getf hX.1 hX.2.1 hX.2.2.2.1 (hts _ hm) hi2 (u_facts hfc hkC (u_lays hts (q_lay hc) hk) hi2).1 q1 (by rw [q3]; exact fun h => by cases h) (v := q_fv N0 M i (q_fty ci k) k) (by rw [hsl]; exact q4 k hk) rfl rfl (q_dec hp) k1
def q_ini (y : Nat) : Bool := [0, 10, 18, 30, 41, 53, 61, 66, 67, 98].any (fun x => Nat.beq x y)
def q_pv : FieldType → Value → Bool
  | .int, .int _ => true
  | .boolean, .int x => x == 0 || x == 1
  | .object _, .ref _ => true
  | .object _, .null => true
  | .array _, .ref _ => true
  | .array _, .null => true
  | _, _ => false
theorem q_pv_ok {N0 : Nat} {kv : Nat → Value} {ty : FieldType} {v : Value} (h : q_pv ty v = true) : narrow ty (q_cv N0 kv v) = q_cv N0 kv v ∧ fits ty (q_cv N0 kv v) = true := by
  unfold q_pv at h
  split at h
  · exact ⟨rfl, rfl⟩
  · rename_i x
    simp only [Bool.or_eq_true, beq_iff_eq] at h
    rcases h with rfl | rfl <;> exact ⟨rfl, rfl⟩
  · exact ⟨rfl, rfl⟩
  · exact ⟨rfl, rfl⟩
  · exact ⟨rfl, rfl⟩
  · exact ⟨rfl, rfl⟩
  · cases h
def q_pf (y ci k : Nat) : Bool := !(q_T ci k).2.2.2 || (q_ini y && Nat.beq ci (q_on y))
theorem q_ini0 : (List.range 162).all (fun y => !q_ini y || decide ((q_yn y).name = "<init>")) = true := by decide +kernel
theorem q_own0 : (List.range 10).all (fun ci => (List.range (q_nf ci)).all (fun k => decide ((q_T ci k).1 = q_os ci))) = true := by decide +kernel
theorem G_step1 {d y pc pc2 : Nat} {ll : List (Option Value)} {st st2 : List Value} {M M1 : qM} {r : Option Value} {M' : qM} (hn1 : q_n M1 = q_n M) (g : G d y (pc2, ll, st2, M1) r M')
    (h : ∀ (l : Launch) (D : va_G) (dA : Nat → ClassId) (kv : Nat → Value) (N0 : Nat) (p : Program) (e : Env) (s : State) (m : MethodId) (args : Array Value) (below : List Frame) (meth : Method) (co : Code) (R : Room) (Q : State → Prop), q_X D dA kv N0 y p s m args meth co → ∀ (H : Heap) (locs : List Loc) (ls : Array Slot) (cells slots : Nat), q_W D dA N0 M H → va_S (q_A N0) s.heap H locs →
      (∀ (H1 : Heap) (locs1 : List Loc), q_W D dA N0 M1 H1 → va_S (q_A N0) s.heap H1 locs1 → W p l e R s m args below meth co H1 locs1 cells slots Q (F0 m pc2 ls (st2.map (q_cv N0 kv)))) → W p l e R s m args below meth co H locs cells slots Q (F0 m pc ls (st.map (q_cv N0 kv)))) : G d y (pc, ll, st, M) r M' := by
  intro l D dA kv N0 n0 p e s m args below meth co R Q hB hn H locs ls hL hW hS
  refine h l D dA kv N0 p e s m args below meth co R Q hB.1 H locs ls _ _ hW hS (fun H1 locs1 hW1 hS1 => ?_)
  have k := g l D dA kv N0 n0 p e s m args below meth co R Q hB (by show n0 ≤ q_n M1; rw [hn1]; exact hn) H1 locs1 ls hL hW1 hS1
  have k : W p l e R s m args below meth co H1 locs1 (q_n M1 - n0) (q_sl (q_n M1) - q_sl n0) Q (F0 m pc2 ls (st2.map (q_cv N0 kv))) := k
  rw [hn1] at k
  exact k
theorem G_put {d y pc : Nat} {ll : List (Option Value)} {st : List Value} {M : qM} {r : Option Value} {M' : qM} {idx ci k i : Nat} {v : Value} {M1 : qM} (hp : q_pg y pc = some (.putfield idx, 3)) (hf : q_fl (q_on y) idx = some (ci, k)) (hs : q_SH i = some (.inl ci)) (hi : i < q_n M) (hw : q_w M i (q_fty ci k) k v = some M1) (hv : q_pv (q_fty ci k) v = true) (hfin : q_pf y ci k = true) (g : G d y (pc + 3, ll, st, M1) r M') : G d y (pc, ll, v :: .ref i :: st, M) r M' := by
  refine G_step1 (q_w_n hw) g fun l D dA kv N0 p e s m args below meth co R Q hX H locs ls cells slots hW hS kk => ?_
  obtain ⟨hc, hk, hm⟩ := q_fl1 (q_on1 (q_ylt hp)).1 hf
  have hts := hX.2.2.2.2.1
  have hK := hX.2.2.2.2.2.2.1.1
  have hcl := q_clk ci hc
  have hap := va_apart (own := q_os (q_on y)) hts (q_lay hc) (q_fty ci) (q_ftyk hc) (q_nmk hc) hK hcl
  obtain ⟨cell, q1, q2, q3, q4⟩ := q_at_obj (hW.2 i hi) hs
  obtain ⟨hSl, hfc, kC, hkC, hkind⟩ := hK.1 ci _ hcl
  obtain ⟨cf, kf, fi, f, hi2, hsl⟩ := hSl k hk
  obtain ⟨hn, hfit⟩ := q_pv_ok (N0 := N0) (kv := kv) hv
  have hlay := hts _ (q_lay hc _ (u_in_lay hk))
  have hst := (u_facts hfc hkC (u_lays hts (q_lay hc) hk) hi2).1
  have tail : ∀ H1 : Heap, H1[N0 + i]? = some (cell.setSlot f.slot (q_cv N0 kv v)) → H1.size = H.size → (∀ q, q ≠ N0 + i → H1[q]? = H[q]?) → q_W D dA N0 M1 H1 ∧ va_S (q_A N0) s.heap H1 (locs ++ [⟨N0 + i, f.slot⟩]) := by
    intro H1 e1 e2 e3
    refine ⟨q_W_put hW hw e2 e3 ?_, hS.put e2 e3 (Nat.le_add_right _ _)⟩
    unfold q_at
    rw [hs]
    rw [hsl] at e1
    refine t_OB.to (V := updV (fun k => q_fv N0 M i (q_fty ci k) k) k (q_cv N0 kv v)) ⟨_, e1, q2, q3, t_set q4 hap hk _⟩ (fun j _ => ?_)
    by_cases e : j = k
    · subst e
      simp only [updV, if_true]
      exact (q_w_self hw).symm
    · simp only [updV, if_neg e]
      exact (q_w_same hw e _).symm
  cases hff : (q_T ci k).2.2.2 with
  | false =>
    unfold u_lay at hlay
    rw [if_neg (by rw [hff]; decide)] at hlay
    have h6 := u_store hfc hkC hkind hlay hi2 (q_ftyk hc k hk) hn hfit
    exact W.putK hX.1 hX.2.1 (f := f) ⟨hX.2.2.2.1, hts _ hm, ⟨_, _, _, hi2⟩, hst⟩ (by rw [q2]; exact h6) q1 q3 (by rw [hsl]; exact k2_hasslot (q4 k hk)) rfl rfl (q_dec hp) (fun H1 e1 e2 e3 => kk H1 _ (tail H1 e1 e2 e3).1 (tail H1 e1 e2 e3).2)
  | true =>
    unfold q_pf at hfin
    rw [hff] at hfin
    simp only [Bool.not_true, Bool.false_or, Bool.and_eq_true] at hfin
    have hini : (q_yn y).name = "<init>" := by
      have h1 := List.all_eq_true.mp q_ini0 y (List.mem_range.mpr (q_ylt hp))
      simp only [hfin.1, Bool.not_true, Bool.false_or, decide_eq_true_eq] at h1
      exact h1
    have hown3 : (q_T ci k).1 = q_os (q_on y) := by
      have h1 := List.all_eq_true.mp (List.all_eq_true.mp q_own0 ci (List.mem_range.mpr hc)) k (List.mem_range.mpr hk)
      rw [of_decide_eq_true h1, Nat.eq_of_beq_eq_true hfin.2]
    unfold u_lay at hlay
    rw [if_pos hff] at hlay
    have hcf : m.cls = cf := by
      obtain ⟨_, _, c', _, _, _, -, -, hf', -, -, -, hown2, -⟩ := Cond.laysFinal_spec hlay
      have e1 : c' = cf := by have := hi2.symm.trans hf'; simp at this; exact this.1.symm
      rw [hown3] at hown2
      rw [← e1]; exact Option.some.inj (hX.2.2.2.1.symm.trans hown2)
    have h6 := u_fits hfc hkC hkind (Or.inr hlay) hi2 (q_ftyk hc k hk) hn hfit
    exact W.putFinK hX.1 hX.2.1 hX.2.2.2.1 (hts _ hm) hi2 hst hcf (hX.2.2.2.2.2.1.trans hini) (by rw [q2]; exact h6) q1 q3 (by rw [hsl]; exact k2_hasslot (q4 k hk)) rfl rfl (q_dec hp) (fun H1 e1 e2 e3 => kk H1 _ (tail H1 e1 e2 e3).1 (tail H1 e1 e2 e3).2)
theorem G_iald {d y pc : Nat} {ll : List (Option Value)} {st : List Value} {M : qM} {r : Option Value} {M' : qM} {i n : Nat} {j : Int32} (hp : q_pg y pc = some (.iaload, 1)) (hs : q_SH i = some (.inr (0, n))) (hi : i < q_n M) (hin : vp_in j n) (g : G d y (pc + 1, ll, .int (q_i M i j.toNatClampNeg) :: st, M) r M') : G d y (pc, ll, .int j :: .ref i :: st, M) r M' := by
  refine G_same g fun l D dA kv N0 p e s m args below meth co R Q hX hR H locs ls cells slots hL hW hS kk => ?_
  have hK := hX.2.2.2.2.2.2.1.1
  have hlt : j.toNatClampNeg < n := Nat.not_le.mp fun q => hin (Or.inr q)
  have h1 := q_at_arr (hW.2 i hi) hs
  exact W.iald hX.1 hX.2.1 h1 ((hK.2 0 _ (q_tysk dA 0 (by decide))).1 n _) (fun q => by cases q) (by rw [arrV_size]; exact hin) (by rw [arrV_read _ _ hlt]; rfl) rfl rfl (q_dec hp) (kk ls hL)
theorem G_zald {d y pc : Nat} {ll : List (Option Value)} {st : List Value} {M : qM} {r : Option Value} {M' : qM} {i n : Nat} {j : Int32} (hp : q_pg y pc = some (.baload, 1)) (hs : q_SH i = some (.inr (1, n))) (hi : i < q_n M) (hin : vp_in j n) (g : G d y (pc + 1, ll, .int (q_i M i j.toNatClampNeg) :: st, M) r M') : G d y (pc, ll, .int j :: .ref i :: st, M) r M' := by
  refine G_same g fun l D dA kv N0 p e s m args below meth co R Q hX hR H locs ls cells slots hL hW hS kk => ?_
  have hK := hX.2.2.2.2.2.2.1.1
  have hlt : j.toNatClampNeg < n := Nat.not_le.mp fun q => hin (Or.inr q)
  have h1 := q_at_arr (hW.2 i hi) hs
  exact W.zald hX.1 hX.2.1 h1 ((hK.2 1 _ (q_tysk dA 1 (by decide))).1 n _) (fun q => by cases q) (by rw [arrV_size]; exact hin) (by rw [arrV_read _ _ hlt]; rfl) rfl rfl (q_dec hp) (kk ls hL)
theorem G_bald {d y pc : Nat} {ll : List (Option Value)} {st : List Value} {M : qM} {r : Option Value} {M' : qM} {i n : Nat} {j : Int32} (hp : q_pg y pc = some (.baload, 1)) (hs : q_SH i = some (.inr (2, n))) (hi : i < q_n M) (hin : vp_in j n) (g : G d y (pc + 1, ll, .int (q_i M i j.toNatClampNeg) :: st, M) r M') : G d y (pc, ll, .int j :: .ref i :: st, M) r M' := by
  refine G_same g fun l D dA kv N0 p e s m args below meth co R Q hX hR H locs ls cells slots hL hW hS kk => ?_
  have hK := hX.2.2.2.2.2.2.1.1
  have hlt : j.toNatClampNeg < n := Nat.not_le.mp fun q => hin (Or.inr q)
  have h1 := q_at_arr (hW.2 i hi) hs
  exact W.bald hX.1 hX.2.1 h1 ((hK.2 2 _ (q_tysk dA 2 (by decide))).1 n _) (fun q => by cases q) (by rw [arrV_size]; exact hin) (by rw [arrV_read _ _ hlt]; rfl) rfl rfl (q_dec hp) (kk ls hL)
theorem G_lald {d y pc : Nat} {ll : List (Option Value)} {st : List Value} {M : qM} {r : Option Value} {M' : qM} {i n : Nat} {j : Int32} (hp : q_pg y pc = some (.laload, 1)) (hs : q_SH i = some (.inr (3, n))) (hi : i < q_n M) (hin : vp_in j n) (g : G d y (pc + 1, ll, .long (q_l M i j.toNatClampNeg) :: st, M) r M') : G d y (pc, ll, .int j :: .ref i :: st, M) r M' := by
  refine G_same g fun l D dA kv N0 p e s m args below meth co R Q hX hR H locs ls cells slots hL hW hS kk => ?_
  have hK := hX.2.2.2.2.2.2.1.1
  have hlt : j.toNatClampNeg < n := Nat.not_le.mp fun q => hin (Or.inr q)
  have h1 := q_at_arr (hW.2 i hi) hs
  exact W.lald hX.1 hX.2.1 h1 ((hK.2 3 _ (q_tysk dA 3 (by decide))).1 n _) (fun q => by cases q) (by rw [arrV_size]; exact hin) (by rw [arrV_read _ _ hlt]; rfl) rfl rfl (q_dec hp) (kk ls hL)
theorem G_aald {d y pc : Nat} {ll : List (Option Value)} {st : List Value} {M : qM} {r : Option Value} {M' : qM} {i t n : Nat} {j : Int32} (hp : q_pg y pc = some (.aaload, 1)) (hs : q_SH i = some (.inr (t, n))) (ht : 4 ≤ t ∧ t < 7) (hi : i < q_n M) (hin : vp_in j n) (g : G d y (pc + 1, ll, va_rf (q_r M i j.toNatClampNeg) :: st, M) r M') : G d y (pc, ll, .int j :: .ref i :: st, M) r M' := by
  refine G_same g fun l D dA kv N0 p e s m args below meth co R Q hX hR H locs ls cells slots hL hW hS kk => ?_
  have hK := hX.2.2.2.2.2.2.1.1
  have hlt : j.toNatClampNeg < n := Nat.not_le.mp fun q => hin (Or.inr q)
  have h1 := q_at_arr (hW.2 i hi) hs
  have hkd : q_kd (q_ety t) = 2 ∧ (q_ety t).isReference = true := by
    obtain ⟨h4, h7⟩ := ht
    rcases (show t = 4 ∨ t = 5 ∨ t = 6 by omega) with rfl | rfl | rfl <;> exact ⟨rfl, rfl⟩
  have k1 := kk ls hL
  have ev : q_cv N0 kv (va_rf (q_r M i j.toNatClampNeg)) = q_fv N0 M i (q_ety t) j.toNatClampNeg := by
    rw [← q_cv_av N0 kv]
    unfold q_av
    rw [hkd.1]
    rfl
  rw [List.map_cons, ev] at k1
  exact W.aald hX.1 hX.2.1 h1 ((hK.2 t _ (q_tysk dA t ht.2)).1 n _) hkd.2 (fun q => by cases q) (by rw [arrV_size]; exact hin) (by rw [arrV_read _ _ hlt]) rfl rfl (q_dec hp) k1
theorem G_alen {d y pc : Nat} {ll : List (Option Value)} {st : List Value} {M : qM} {r : Option Value} {M' : qM} {i t n : Nat} {x : Int32} (hp : q_pg y pc = some (.arraylength, 1)) (hs : q_SH i = some (.inr (t, n))) (ht : t < 7) (hi : i < q_n M) (hx : Int32.ofNat n = x) (g : G d y (pc + 1, ll, .int x :: st, M) r M') : G d y (pc, ll, .ref i :: st, M) r M' := by
  refine G_same g fun l D dA kv N0 p e s m args below meth co R Q hX hR H locs ls cells slots hL hW hS kk => ?_
  have hK := hX.2.2.2.2.2.2.1.1
  have h1 := q_at_arr (hW.2 i hi) hs
  exact W.alen hX.1 hX.2.1 h1 ((hK.2 t _ (q_tysk dA t ht)).1 n _) (by rw [arrV_size]; exact hx) rfl rfl (q_dec hp) (kk ls hL)
theorem G_iast {d y pc : Nat} {ll : List (Option Value)} {st : List Value} {M : qM} {r : Option Value} {M' : qM} {i n : Nat} {j : Int32} {x : Int32} (hp : q_pg y pc = some (.iastore, 1)) (hs : q_SH i = some (.inr (0, n))) (hi : i < q_n M) (hin : vp_in j n) (g : G d y (pc + 1, ll, st, q_wi M i j.toNatClampNeg x) r M') : G d y (pc, ll, .int x :: .int j :: .ref i :: st, M) r M' := by
  have hw : q_w M i (q_ety 0) j.toNatClampNeg (.int x) = some (q_wi M i j.toNatClampNeg x) := rfl
  refine G_step1 (q_w_n hw) g fun l D dA kv N0 p e s m args below meth co R Q hX H locs ls cells slots hW hS kk => ?_
  have hK := hX.2.2.2.2.2.2.1.1
  have h1 := q_at_arr (hW.2 i hi) hs
  refine W.iast hX.1 hX.2.1 h1 ((hK.2 0 _ (q_tysk dA 0 (by decide))).1 n _) (fun q => by cases q) (by rw [arrV_size]; exact hin) rfl rfl (q_dec hp) fun H1 e z oq => ?_
  refine kk H1 _ (q_W_put hW hw z oq ?_) (hS.put z oq (Nat.le_add_right _ _))
  unfold q_at
  rw [hs]
  show H1[N0 + i]? = some (arrV (dA 0) n (q_fv N0 _ i (q_ety 0)))
  rw [e, arrV_store]
  congr 2
  funext q
  by_cases hq : q = j.toNatClampNeg
  · subst hq
    simp only [updV, if_true]
    exact (q_w_self (N0 := N0) (kv := kv) hw).symm
  · simp only [updV, if_neg hq]
    exact (q_w_same hw hq _).symm
theorem G_zast {d y pc : Nat} {ll : List (Option Value)} {st : List Value} {M : qM} {r : Option Value} {M' : qM} {i n : Nat} {j : Int32} {x : Int32} (hp : q_pg y pc = some (.bastore, 1)) (hs : q_SH i = some (.inr (1, n))) (hi : i < q_n M) (hin : vp_in j n) (g : G d y (pc + 1, ll, st, q_wi M i j.toNatClampNeg (vp_nar .boolean x)) r M') : G d y (pc, ll, .int x :: .int j :: .ref i :: st, M) r M' := by
  have hw : q_w M i (q_ety 1) j.toNatClampNeg (.int (vp_nar .boolean x)) = some (q_wi M i j.toNatClampNeg (vp_nar .boolean x)) := rfl
  refine G_step1 (q_w_n hw) g fun l D dA kv N0 p e s m args below meth co R Q hX H locs ls cells slots hW hS kk => ?_
  have hK := hX.2.2.2.2.2.2.1.1
  have h1 := q_at_arr (hW.2 i hi) hs
  refine W.zast hX.1 hX.2.1 h1 ((hK.2 1 _ (q_tysk dA 1 (by decide))).1 n _) (fun q => by cases q) (by rw [arrV_size]; exact hin) rfl rfl (q_dec hp) fun H1 e z oq => ?_
  refine kk H1 _ (q_W_put hW hw z oq ?_) (hS.put z oq (Nat.le_add_right _ _))
  unfold q_at
  rw [hs]
  show H1[N0 + i]? = some (arrV (dA 1) n (q_fv N0 _ i (q_ety 1)))
  rw [e, arrV_store]
  congr 2
  funext q
  by_cases hq : q = j.toNatClampNeg
  · subst hq
    simp only [updV, if_true]
    exact (q_w_self (N0 := N0) (kv := kv) hw).symm
  · simp only [updV, if_neg hq]
    exact (q_w_same hw hq _).symm
theorem G_bast {d y pc : Nat} {ll : List (Option Value)} {st : List Value} {M : qM} {r : Option Value} {M' : qM} {i n : Nat} {j : Int32} {x : Int32} (hp : q_pg y pc = some (.bastore, 1)) (hs : q_SH i = some (.inr (2, n))) (hi : i < q_n M) (hin : vp_in j n) (g : G d y (pc + 1, ll, st, q_wi M i j.toNatClampNeg (vp_nar .byte x)) r M') : G d y (pc, ll, .int x :: .int j :: .ref i :: st, M) r M' := by
  have hw : q_w M i (q_ety 2) j.toNatClampNeg (.int (vp_nar .byte x)) = some (q_wi M i j.toNatClampNeg (vp_nar .byte x)) := rfl
  refine G_step1 (q_w_n hw) g fun l D dA kv N0 p e s m args below meth co R Q hX H locs ls cells slots hW hS kk => ?_
  have hK := hX.2.2.2.2.2.2.1.1
  have h1 := q_at_arr (hW.2 i hi) hs
  refine W.bast hX.1 hX.2.1 h1 ((hK.2 2 _ (q_tysk dA 2 (by decide))).1 n _) (fun q => by cases q) (by rw [arrV_size]; exact hin) rfl rfl (q_dec hp) fun H1 e z oq => ?_
  refine kk H1 _ (q_W_put hW hw z oq ?_) (hS.put z oq (Nat.le_add_right _ _))
  unfold q_at
  rw [hs]
  show H1[N0 + i]? = some (arrV (dA 2) n (q_fv N0 _ i (q_ety 2)))
  rw [e, arrV_store]
  congr 2
  funext q
  by_cases hq : q = j.toNatClampNeg
  · subst hq
    simp only [updV, if_true]
    exact (q_w_self (N0 := N0) (kv := kv) hw).symm
  · simp only [updV, if_neg hq]
    exact (q_w_same hw hq _).symm
theorem G_last {d y pc : Nat} {ll : List (Option Value)} {st : List Value} {M : qM} {r : Option Value} {M' : qM} {i n : Nat} {j : Int32} {x : Int64} (hp : q_pg y pc = some (.lastore, 1)) (hs : q_SH i = some (.inr (3, n))) (hi : i < q_n M) (hin : vp_in j n) (g : G d y (pc + 1, ll, st, q_wl M i j.toNatClampNeg x) r M') : G d y (pc, ll, .long x :: .int j :: .ref i :: st, M) r M' := by
  have hw : q_w M i (q_ety 3) j.toNatClampNeg (.long x) = some (q_wl M i j.toNatClampNeg x) := rfl
  refine G_step1 (q_w_n hw) g fun l D dA kv N0 p e s m args below meth co R Q hX H locs ls cells slots hW hS kk => ?_
  have hK := hX.2.2.2.2.2.2.1.1
  have h1 := q_at_arr (hW.2 i hi) hs
  refine W.last hX.1 hX.2.1 h1 ((hK.2 3 _ (q_tysk dA 3 (by decide))).1 n _) (fun q => by cases q) (by rw [arrV_size]; exact hin) rfl rfl (q_dec hp) fun H1 e z oq => ?_
  refine kk H1 _ (q_W_put hW hw z oq ?_) (hS.put z oq (Nat.le_add_right _ _))
  unfold q_at
  rw [hs]
  show H1[N0 + i]? = some (arrV (dA 3) n (q_fv N0 _ i (q_ety 3)))
  rw [e, arrV_store]
  congr 2
  funext q
  by_cases hq : q = j.toNatClampNeg
  · subst hq
    simp only [updV, if_true]
    exact (q_w_self (N0 := N0) (kv := kv) hw).symm
  · simp only [updV, if_neg hq]
    exact (q_w_same hw hq _).symm
theorem G_aast {d y pc : Nat} {ll : List (Option Value)} {st : List Value} {M : qM} {r : Option Value} {M' : qM} {i t n b ci : Nat} {j : Int32} (hp : q_pg y pc = some (.aastore, 1)) (hs : q_SH i = some (.inr (t, n))) (ht : 4 ≤ t ∧ t < 7) (hi : i < q_n M) (hin : vp_in j n) (hb : q_SH b = some (.inl ci)) (hbn : b < q_n M) (hc : ci < 10) (hty : q_ety t = .object (q_os ci)) (g : G d y (pc + 1, ll, st, q_wr M i j.toNatClampNeg (some b)) r M') : G d y (pc, ll, .ref b :: .int j :: .ref i :: st, M) r M' := by
  have hkd : q_kd (q_ety t) = 2 := by rw [hty]; rfl
  have hw : q_w M i (q_ety t) j.toNatClampNeg (.ref b) = some (q_wr M i j.toNatClampNeg (some b)) := by unfold q_w; rw [hkd]; rfl
  refine G_step1 (q_w_n hw) g fun l D dA kv N0 p e s m args below meth co R Q hX H locs ls cells slots hW hS kk => ?_
  have hK := hX.2.2.2.2.2.2.1.1
  have h1 := q_at_arr (hW.2 i hi) hs
  have hlt : j.toNatClampNeg < n := Nat.not_le.mp fun q => hin (Or.inr q)
  have h0 : ¬ j < 0 := fun q => hin (Or.inl q)
  obtain ⟨cellV, g1, g2, g3, -⟩ := q_at_obj (hW.2 b hbn) hb
  have hcls := (hK.1 ci _ (q_clk ci hc)).2
  have hra := (hK.2 t _ (q_tysk dA t ht.2)).2
  have hra : va_RA s (dA t) (.object (q_os ci)) := by rw [← hty]; exact hra
  obtain ⟨kA, comp, k1, k2, k3, -⟩ := hra
  have hcomp : comp = D.1 ci := Option.some.inj (k3.symm.trans hcls.1)
  subst hcomp
  obtain ⟨kC, hkC, -⟩ := hcls.2
  refine W.aast hX.1 hX.2.1 h1 (fun q h => by cases h) (fun h => by cases h) k1 k2 rfl hkC ⟨h0, by rw [arrV_size]; exact hlt⟩ g1 (fun q h => by rw [g3] at h; cases h) (by rw [g2]; exact hkC) (by rw [g2]; exact va_assign hcls) rfl rfl (q_dec hp) fun H1 e z oq => ?_
  refine kk H1 _ (q_W_put hW hw z oq ?_) (hS.put z oq (Nat.le_add_right _ _))
  unfold q_at
  rw [hs]
  show H1[N0 + i]? = some (arrV (dA t) n (q_fv N0 _ i (q_ety t)))
  rw [e, arrV_store]
  congr 2
  funext q
  by_cases hq : q = j.toNatClampNeg
  · subst hq
    simp only [updV, if_true]
    exact (q_w_self (N0 := N0) (kv := kv) hw).symm
  · simp only [updV, if_neg hq]
    exact (q_w_same hw hq _).symm
