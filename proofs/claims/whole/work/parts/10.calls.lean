/-! ===== new cells ===== -/
theorem q_room {n0 nM nM' C : Nat} (hn : n0 ≤ nM) (hle : nM + 1 ≤ nM') (h : nM' - n0 ≤ C) : nM - n0 + 1 ≤ C := by omega
theorem q_roomS {n0 nM nM' C z : Nat} (hn : n0 ≤ nM) (hle : nM + 1 ≤ nM') (h : q_sl nM' - q_sl n0 ≤ C) (hz : q_sz nM = z) : q_sl nM - q_sl n0 + z ≤ C := by
  have h1 := q_sl_mono hn
  have h2 := q_sl_mono hle
  have h3 : q_sl (nM + 1) = q_sl nM + q_sz nM := rfl
  omega
theorem q_step_n {n0 nM : Nat} (hn : n0 ≤ nM) : nM - n0 + 1 = nM + 1 - n0 := by omega
theorem q_step_s {n0 nM z : Nat} (hn : n0 ≤ nM) (hz : q_sz nM = z) : q_sl nM - q_sl n0 + z = q_sl (nM + 1) - q_sl n0 := by
  have h1 := q_sl_mono hn
  have h3 : q_sl (nM + 1) = q_sl nM + q_sz nM := rfl
  omega
theorem q_S_new {N0 : Nat} {H0 H H1 : Heap} {locs : List Loc} (hS : va_S (q_A N0) H0 H locs) (z : H1.size = H.size + 1) (oq : ∀ q : Nat, q < H.size → H1[q]? = H[q]?) : va_S (q_A N0) H0 H1 locs :=
  ⟨Nat.le_trans hS.1 (by omega), fun x h1 h2 => (oq x (Nat.lt_of_lt_of_le h1 hS.1)).trans (hS.2.1 x h1 h2), hS.2.2⟩
theorem q_fdv0 : (List.range 10).all (fun ci => (List.range (q_nf ci)).all (fun k => decide (defaultValue (q_fty ci k) = match q_kd (q_fty ci k) with | 0 => .int 0 | 1 => .long 0 | _ => .null))) = true := by decide +kernel
theorem G_new {d y pc : Nat} {ll : List (Option Value)} {st : List Value} {M : qM} {r : Option Value} {M' : qM} {idx ci : Nat} (hp : q_pg y pc = some (.new idx, 3)) (hw : q_nw (q_on y) idx = some ci) (hs : q_SH (q_n M) = some (.inl ci)) (hle : q_n M + 1 ≤ q_n M') (g : G d y (pc + 3, ll, .ref (q_n M) :: st, q_al M) r M') : G d y (pc, ll, st, M) r M' := by
  intro l D dA kv N0 n0 p e s m args below meth co R Q hB hn H locs ls hL hW hS
  have hX := hB.1
  obtain ⟨hc, hm1, hm2, hm3⟩ := q_nw1 (q_on1 (q_ylt hp)).1 hw
  have hts := hX.2.2.2.2.1
  have hK := hX.2.2.2.2.2.2.1.1
  have hKn := hK.1 ci _ (q_clk ci hc)
  have hz : q_sz (q_n M) = q_nf ci := by unfold q_sz; rw [hs]
  refine W.newcK hX.1 hX.2.1 hX.2.2.2.1 (hts _ hm1) (hts _ hm2) (hts _ hm3) rfl (q_dec hp) (q_room hn hle hB.2.2.1.1) (q_roomS hn hle hB.2.2.1.2 hz) hKn.2.1 rfl fun H1 kC hkC e1 z1 o1 => ?_
  have hW1 : q_W D dA N0 (q_al M) H1 := by
    refine q_W_new hW z1 o1 ?_
    unfold q_at
    rw [hs]
    have e1' : H1[N0 + q_n M]? = some (blank (D.1 ci) kC) := by rw [← hW.1]; exact e1
    refine t_OB.to (u_born (q_fty ci) hts (q_lay hc) hKn hkC e1' (q_ftyk hc)) (fun k hk => ?_)
    rw [q_fv_new]
    exact of_decide_eq_true (List.all_eq_true.mp (List.all_eq_true.mp q_fdv0 ci (List.mem_range.mpr hc)) k (List.mem_range.mpr hk))
  have k := g l D dA kv N0 n0 p e s m args below meth co R Q hB (Nat.le_trans hn (Nat.le_succ _)) H1 locs ls hL hW1 (q_S_new hS z1 o1)
  have hNs : N0 + q_n M = H.size := hW.1.symm
  have k : W p l e R s m args below meth co H1 locs (q_n M + 1 - n0) (q_sl (q_n M + 1) - q_sl n0) Q (F0 m (pc + 3) ls (.ref (N0 + q_n M) :: st.map (q_cv N0 kv))) := k
  rw [hNs] at k
  exact W.cs (q_step_n hn) (q_step_s hn hz) k
theorem q_ety_lt {t : Nat} (ht : t < 4) : q_ety t = .int ∨ q_ety t = .boolean ∨ q_ety t = .byte ∨ q_ety t = .long := by
  rcases (show t = 0 ∨ t = 1 ∨ t = 2 ∨ t = 3 by omega) with rfl | rfl | rfl | rfl
  · exact Or.inl rfl
  · exact Or.inr (Or.inl rfl)
  · exact Or.inr (Or.inr (Or.inl rfl))
  · exact Or.inr (Or.inr (Or.inr rfl))
theorem G_newarr {d y pc : Nat} {ll : List (Option Value)} {st : List Value} {M : qM} {r : Option Value} {M' : qM} {aty : ArrayType} {t len : Nat} {x : Int32} (hp : q_pg y pc = some (.newarray aty, 2)) (hs : q_SH (q_n M) = some (.inr (t, len))) (ht : t < 4) (hty : newarray.typeOf aty = q_ety t) (hx : ¬ x < 0) (hl : x.toNatClampNeg = len) (hb : len ≤ 1000) (hle : q_n M + 1 ≤ q_n M') (g : G d y (pc + 2, ll, .ref (q_n M) :: st, q_al M) r M') : G d y (pc, ll, .int x :: st, M) r M' := by
  intro l D dA kv N0 n0 p e s m args below meth co R Q hB hn H locs ls hL hW hS
  have hX := hB.1
  have hts := hX.2.2.2.2.1
  have hK := hX.2.2.2.2.2.2.1.1
  have hz : q_sz (q_n M) = len := by unfold q_sz; rw [hs]
  have harr : (Cond.arrayClass (newarray.typeOf aty)).before args s = true := by
    rw [hty]
    rcases q_ety_lt ht with h | h | h | h <;> rw [h]
    · exact hts _ (q_in_TB q_ac0.1)
    · exact hts _ (q_in_TB q_ac0.2.1)
    · exact hts _ (q_in_TB q_ac0.2.2.1)
    · exact hts _ (q_in_TB q_ac0.2.2.2)
  have hbytes : len * componentBytes (newarray.typeOf aty) ≤ 536870912 := by
    have h8 : componentBytes (newarray.typeOf aty) ≤ 8 := by cases aty <;> decide
    exact Nat.le_trans (Nat.mul_le_mul hb h8) (by decide)
  refine va_newaK hX.1 hX.2.1 harr rfl (q_dec hp) rfl hx hl hbytes (q_room hn hle hB.2.2.1.1) (q_roomS hn hle hB.2.2.1.2 hz) rfl fun H1 cA e1 z1 o1 hAr hNm => ?_
  have hcA : cA = dA t := by
    have h1 := (hK.2 t _ (q_tysk dA t (by omega))).2
    rw [hty] at hNm
    rcases q_ety_lt ht with h | h | h | h <;> rw [h] at h1 hNm <;> exact Option.some.inj (hNm.symm.trans h1)
  subst hcA
  have hW1 : q_W D dA N0 (q_al M) H1 := by
    refine q_W_new hW z1 o1 ?_
    unfold q_at
    rw [hs]
    show H1[N0 + q_n M]? = some (arrV (dA t) len (q_fv N0 (q_al M) (q_n M) (q_ety t)))
    rw [← hW.1, e1, hty]
    congr 2
    funext k
    rw [q_fv_new]
    rcases q_ety_lt ht with h | h | h | h <;> rw [h] <;> rfl
  have k := g l D dA kv N0 n0 p e s m args below meth co R Q hB (Nat.le_trans hn (Nat.le_succ _)) H1 locs ls hL hW1 (q_S_new hS z1 o1)
  have hNs : N0 + q_n M = H.size := hW.1.symm
  have k : W p l e R s m args below meth co H1 locs (q_n M + 1 - n0) (q_sl (q_n M + 1) - q_sl n0) Q (F0 m (pc + 2) ls (.ref (N0 + q_n M) :: st.map (q_cv N0 kv))) := k
  rw [hNs] at k
  exact W.cs (q_step_n hn) (q_step_s hn hz) k
theorem G_anew {d y pc : Nat} {ll : List (Option Value)} {st : List Value} {M : qM} {r : Option Value} {M' : qM} {idx ci t len : Nat} {x : Int32} (hp : q_pg y pc = some (.anewarray idx, 3)) (hw : q_nw (q_on y) idx = some ci) (hs : q_SH (q_n M) = some (.inr (t, len))) (ht : 4 ≤ t ∧ t < 7) (hty : q_ety t = .object (q_os ci)) (hx : ¬ x < 0) (hl : x.toNatClampNeg = len) (hb : len ≤ 1000) (hle : q_n M + 1 ≤ q_n M') (g : G d y (pc + 3, ll, .ref (q_n M) :: st, q_al M) r M') : G d y (pc, ll, .int x :: st, M) r M' := by
  intro l D dA kv N0 n0 p e s m args below meth co R Q hB hn H locs ls hL hW hS
  have hX := hB.1
  obtain ⟨hc, hm1, -, -⟩ := q_nw1 (q_on1 (q_ylt hp)).1 hw
  have hts := hX.2.2.2.2.1
  have hK := hX.2.2.2.2.2.2.1.1
  have hz : q_sz (q_n M) = len := by unfold q_sz; rw [hs]
  have hao : va_AO (q_os ci) s := by
    have h3 := hX.2.2.2.2.2.2.1.2.2.1
    refine h3 _ ?_
    have e : ∀ C, q_ety t = .object C → C ∈ q_ao := by
      rcases (show t = 4 ∨ t = 5 ∨ t = 6 by omega) with rfl | rfl | rfl <;> (intro C h; cases h; decide)
    exact e _ hty
  subst hl
  refine W.anew hX.1 hX.2.1 hX.2.2.2.1 (hts _ hm1) (va_AO.use hao) rfl (q_dec hp) rfl hx (Nat.le_trans (Nat.mul_le_mul_right 4 hb) (by decide)) (q_room hn hle hB.2.2.1.1) (q_roomS hn hle hB.2.2.1.2 hz) fun cA kA comp f1 f2 f3 f4 => ?_
  generalize hH1 : H.push ({ cls := cA, slots := Array.replicate x.toNatClampNeg .null, vm := .none } : Cell) = H1
  have z1 : H1.size = H.size + 1 := by rw [← hH1, Array.size_push]
  have e1 : H1[H.size]? = some (arrV cA x.toNatClampNeg (fun _ => .null)) := by rw [← hH1, Array.getElem?_push_size, ← arrV_new]
  have o1 : ∀ q : Nat, q < H.size → H1[q]? = H[q]? := fun q hq => by rw [← hH1, Array.getElem?_push, if_neg (Nat.ne_of_lt hq)]
  have hcA : cA = dA t := by
    have h1 := (hK.2 t _ (q_tysk dA t ht.2)).2
    have h1 : va_RA s (dA t) (.object (q_os ci)) := by rw [← hty]; exact h1
    obtain ⟨_, _, _, _, _, h2⟩ := h1
    exact Option.some.inj (f1.symm.trans h2)
  subst hcA
  have hW1 : q_W D dA N0 (q_al M) H1 := by
    refine q_W_new hW z1 o1 ?_
    unfold q_at
    rw [hs]
    show H1[N0 + q_n M]? = some (arrV (dA t) _ (q_fv N0 (q_al M) (q_n M) (q_ety t)))
    rw [← hW.1, e1, hty]
    congr 2
    funext k
    rw [q_fv_new]
    rfl
  have k := g l D dA kv N0 n0 p e s m args below meth co R Q hB (Nat.le_trans hn (Nat.le_succ _)) H1 locs ls hL hW1 (q_S_new hS z1 o1)
  have hNs : N0 + q_n M = H.size := hW.1.symm
  have k : W p l e R s m args below meth co H1 locs (q_n M + 1 - n0) (q_sl (q_n M + 1) - q_sl n0) Q (F0 m (pc + 3) ls (.ref (N0 + q_n M) :: st.map (q_cv N0 kv))) := k
  rw [hNs] at k
  exact W.cs (q_step_n hn) (q_step_s hn hz) k
theorem G_oinit {d y pc : Nat} {ll : List (Option Value)} {st : List Value} {M : qM} {r : Option Value} {M' : qM} {x : Nat} (hp : q_pg y pc = some (.invokespecial ([5, 3, 3, 3, 3, 3, 1, 3, 1, 1].getD (q_on y) 0), 3)) (ho : q_on y < 10) (hd : 1 ≤ d) (hcat : (st.map Value.category).sum ≤ 8) (g : G d y (pc + 3, ll, st, M) r M') : G d y (pc, ll, .ref x :: st, M) r M' := by
  refine G_same g fun l D dA kv N0 p e s m args below meth co R Q hX hR H locs ls cells slots hL hW hS k => ?_
  have hts := hX.2.2.2.2.1
  have hsum : ((st.map (q_cv N0 kv)).map Value.category).sum = (st.map Value.category).sum := by
    rw [List.map_map]
    congr 1
    exact List.map_congr_left fun a _ => q_cv_cat hX.2.2.2.2.2.2.1.2.2.2.1 a
  refine W.objInit hX.1 hX.2.1 hX.2.2.2.1 (hts _ (q_in_TB (List.all_eq_true.mp q_oi0.1 _ (List.mem_range.mpr ho)))) (hts _ (q_in_TB q_oi0.2.1)) (hts _ (q_in_TB q_oi0.2.2)) rfl (by rw [hX.2.2.1]; exact hL.2.1) rfl (q_dec hp) (Nat.le_trans hd hR.1) ?_ (k ls hL)
  show 2 * 0 + ((st.map (q_cv N0 kv)).map Value.category).sum + 12 ≤ R.locals
  rw [hsum]
  have := hR.2
  omega
/-! ===== calls ===== -/
theorem q_map_app (f : Value → Value) (r : Option Value) (l : List Value) : (r.map f).toList ++ l.map f = (r.toList ++ l).map f := by cases r <;> simp
theorem q_callW {p : Program} {l : Launch} {e : Env} {R : Room} {s : State} {m : MethodId} {args : Array Value} {below : List Frame} {meth : Method} {co : Code} {H : Heap} {locs : List Loc} {cells slots mc ms : Nat} {Q : State → Prop} {D : va_G} {dA : Nat → ClassId} {kv : Nat → Value} {N0 pc : Nat} {ls : Array Slot} {st0 rest : List Value} {r1 : Option Value} {M1 : qM} {a : Array Value}
    (hr : va_Run p l e R s m args below meth co H locs cells slots mc ms (F0 m pc ls st0) rest (q_Q D dA kv N0 r1 M1 a) (q_A N0)) (hS : va_S (q_A N0) s.heap H locs)
    (kk : ∀ (H1 : Heap) (locs1 : List Loc), q_W D dA N0 M1 H1 → va_S (q_A N0) s.heap H1 locs1 → W p l e R s m args below meth co H1 locs1 (cells + mc) (slots + ms) Q (F0 m (pc + 3) ls ((r1.map (q_cv N0 kv)).toList ++ rest))) : W p l e R s m args below meth co H locs cells slots Q (F0 m pc ls st0) := by
  intro T hT X
  obtain ⟨v, st₀, t, T', L, h0, X', hL, e1, e2, ⟨hv, hw, hz, hk⟩, st⟩ := hr T hT X
  cases hv
  rw [h0] at hz hk
  obtain ⟨t2, a1, b1⟩ := kk T'.heap (locs ++ L) (by rw [e1]; exact hw)
    ⟨Nat.le_trans hS.1 (by rw [e1]; exact hz), fun q h1 h2 => by rw [e1, hk q (Nat.lt_of_lt_of_le h1 hS.1) h2]; exact hS.2.1 q h1 h2, fun q hq => by
      rcases List.mem_append.mp hq with h | h
      · exact hS.2.2 q h
      · exact hL q h⟩ T' rfl X'
  exact ⟨t2, st t2 a1, b1⟩
theorem q_blind (D : va_G) (dA : Nat → ClassId) (kv : Nat → Value) (N0 : Nat) (M : qM) (av : List Value) : FrameBlind (va_Pc av (q_P D dA kv N0 M)) := fun a U g mk h => ⟨h.1, q_F_same rfl rfl h.2.1, h.2.2⟩
theorem q_pre {D : va_G} {dA : Nat → ClassId} {kv : Nat → Value} {N0 : Nat} {M : qM} {s : State} {H : Heap} {locs : List Loc} (hF : q_F D dA kv N0 s) (hW : q_W D dA N0 M H) (hS : va_S (q_A N0) s.heap H locs) (av : List Value) : ∀ U : State, U.heap = H → s.WarmedH U.vm → va_Pc av (q_P D dA kv N0 M) av.toArray U := fun U hU hWm =>
  ⟨rfl, q_F_warm hWm (fun a h1 h2 => by rw [hU]; exact hS.2.1 a h1 h2) hF, by rw [hU]; exact hW⟩
theorem q_roomC {n0 nM n1 nM' C : Nat} (hn : n0 ≤ nM) (h1 : nM ≤ n1) (hle : n1 ≤ nM') (h : nM' - n0 ≤ C) : nM - n0 + (n1 - nM) ≤ C := by omega
theorem q_roomD {n0 nM n1 nM' C : Nat} (hn : n0 ≤ nM) (h1 : nM ≤ n1) (hle : n1 ≤ nM') (h : q_sl nM' - q_sl n0 ≤ C) : q_sl nM - q_sl n0 + (q_sl n1 - q_sl nM) ≤ C := by
  have := q_sl_mono hn
  have := q_sl_mono h1
  have := q_sl_mono hle
  omega
theorem q_stepC {n0 nM n1 : Nat} (hn : n0 ≤ nM) (h1 : nM ≤ n1) : nM - n0 + (n1 - nM) = n1 - n0 := by omega
theorem q_stepD {n0 nM n1 : Nat} (hn : n0 ≤ nM) (h1 : nM ≤ n1) : q_sl nM - q_sl n0 + (q_sl n1 - q_sl nM) = q_sl n1 - q_sl n0 := by
  have := q_sl_mono hn
  have := q_sl_mono h1
  omega
theorem q_sumc {N0 : Nat} {kv : Nat → Value} (h : ∀ k, kv k = .null ∨ ∃ a, kv k = .ref a) (st : List Value) : ((st.map (q_cv N0 kv)).map fun v => v.category).sum = (st.map Value.category).sum := by
  rw [List.map_map]
  congr 1
  exact List.map_congr_left fun a _ => q_cv_cat h a
theorem G_callV {d y pc : Nat} {ll : List (Option Value)} {M : qM} {r : Option Value} {M' : qM} {idx y2 : Nat} {b ci : Nat} {as rest : List Value} {r1 : Option Value} {M1 : qM} (hp : q_pg y pc = some (.invokevirtual idx, 3)) (hc : q_ck (q_on y) idx = some (0, y2)) (hb : q_SH b = some (.inl ci)) (hbn : b < q_n M) (hci : ci < 10) (hcls : (q_yn y2).cls = q_os ci) (hna : as.length = q_na y2) (hcat : (rest.map Value.category).sum ≤ 8) (hm : GM d y2 (.ref b :: as) M r1 M1) (hle : q_n M1 ≤ q_n M') (g : G (d + 1) y (pc + 3, ll, r1.toList ++ rest, M1) r M') : G (d + 1) y (pc, ll, as.reverse ++ .ref b :: rest, M) r M' := by
  intro l D dA kv N0 n0 p e s m args below meth co R Q hB hn H locs ls hL hW hS
  have hX := hB.1
  have hts := hX.2.2.2.2.1
  have hF := hX.2.2.2.2.2.2.1
  obtain ⟨p1, p2, p3, hw⟩ := q_cl1 (q_on1 (q_ylt hp)).1 hc
  simp only [q_clb, Bool.and_eq_true, decide_eq_true_eq] at hw
  obtain ⟨hy2, hle1, hmet⟩ := hm
  obtain ⟨m1, m2, m3, m4, m5⟩ := q_mt1 hy2
  have hroom : (q_Rm d (q_n M1 - q_n M) (q_sl (q_n M1) - q_sl (q_n M))).frames + 1 ≤ R.frames ∧ 8 + (q_ml y2 + 11) + (q_Rm d (q_n M1 - q_n M) (q_sl (q_n M1) - q_sl (q_n M))).locals ≤ R.locals := by
    have h1 := hB.2.1
    refine ⟨h1.1, ?_⟩
    show 8 + (q_ml y2 + 11) + 36 * d ≤ R.locals
    have := h1.2
    omega
  have hGd : GoodIn qTB (q_ws y2) := q_good (fun w h => h) hy2
  have hfix : CallFix p m co (q_cb y) (q_ml y) s args qTB (q_os (q_on y)) := ⟨hX.1, hX.2.1, hX.2.2.1, hX.2.2.2.1, hts⟩
  have hcw : CallW R s args (q_os (q_on y)) (q_yn y2).cls idx (q_yn y2) (q_cb y2) (q_ml y2) (q_rt y2) (q_ws y2) (q_Rm d (q_n M1 - q_n M) (q_sl (q_n M1) - q_sl (q_n M))) (q_n M1 - q_n M) (q_sl (q_n M1) - q_sl (q_n M)) (q_na y2) :=
    ⟨callB_of (q_na y2) hts hGd rfl rfl rfl (hts _ m2) (hts _ (q_inp_TB hw.2.1.1)) m3 hroom, hts _ (q_inp_TB hw.2.1.2), hts _ (q_inp_TB hw.2.2)⟩
  have hrecv : ∃ cell : Cell, H[N0 + b]? = some cell ∧ cell.vm.isStatics = false ∧ s.vm.findClass (q_yn y2).cls = some cell.cls := by
    obtain ⟨cell, g1, g2, g3, -⟩ := q_at_obj (hW.2 b hbn) hb
    exact ⟨cell, g1, by rw [g3]; rfl, by rw [g2, hcls]; exact (hF.1.1 ci _ (q_clk ci hci)).2.1⟩
  have hstk : (as.reverse ++ .ref b :: rest).map (q_cv N0 kv) = (as.map (q_cv N0 kv)).reverse ++ .ref (N0 + b) :: rest.map (q_cv N0 kv) := by simp [List.map_reverse, q_cv]
  refine q_callW (rest := rest.map (q_cv N0 kv)) (va_runV hfix (hmet l D dA kv N0) hcw ⟨q_blind D dA kv N0 M _, hrecv, q_pre hF hW hS (((.ref b :: as).map (q_cv N0 kv)))⟩ (g := F0 m pc ls ((as.reverse ++ .ref b :: rest).map (q_cv N0 kv))) rfl (by rw [List.length_map]; exact hna) hL.2.1 hstk (lv_room (by rw [q_sumc hF.2.2.2.1]; exact hcat)) (q_dec hp) ⟨q_roomC hn hle1 hle hB.2.2.1.1, q_roomD hn hle1 hle hB.2.2.1.2⟩) hS (fun H1 locs1 hW1 hS1 => ?_)
  have k := g l D dA kv N0 n0 p e s m args below meth co R Q hB (Nat.le_trans hn hle1) H1 locs1 ls hL hW1 hS1
  have k : W p l e R s m args below meth co H1 locs1 (q_n M1 - n0) (q_sl (q_n M1) - q_sl n0) Q (F0 m (pc + 3) ls ((r1.toList ++ rest).map (q_cv N0 kv))) := k
  rw [← q_map_app] at k
  exact W.cs (q_stepC hn hle1) (q_stepD hn hle1) k
theorem G_callS {d y pc : Nat} {ll : List (Option Value)} {M : qM} {r : Option Value} {M' : qM} {idx y2 : Nat}  {as rest : List Value} {r1 : Option Value} {M1 : qM} (hp : q_pg y pc = some (.invokestatic idx, 3)) (hc : q_ck (q_on y) idx = some (1, y2))  (hna : as.length = q_na y2) (hcat : (rest.map Value.category).sum ≤ 8) (hm : GM d y2 (as) M r1 M1) (hle : q_n M1 ≤ q_n M') (g : G (d + 1) y (pc + 3, ll, r1.toList ++ rest, M1) r M') : G (d + 1) y (pc, ll, as.reverse ++ rest, M) r M' := by
  intro l D dA kv N0 n0 p e s m args below meth co R Q hB hn H locs ls hL hW hS
  have hX := hB.1
  have hts := hX.2.2.2.2.1
  have hF := hX.2.2.2.2.2.2.1
  obtain ⟨p1, p2, p3, hw⟩ := q_cl1 (q_on1 (q_ylt hp)).1 hc
  simp only [q_clb, Bool.and_eq_true, decide_eq_true_eq] at hw
  obtain ⟨hy2, hle1, hmet⟩ := hm
  obtain ⟨m1, m2, m3, m4, m5⟩ := q_mt1 hy2
  have hroom : (q_Rm d (q_n M1 - q_n M) (q_sl (q_n M1) - q_sl (q_n M))).frames + 1 ≤ R.frames ∧ 8 + (q_ml y2 + 11) + (q_Rm d (q_n M1 - q_n M) (q_sl (q_n M1) - q_sl (q_n M))).locals ≤ R.locals := by
    have h1 := hB.2.1
    refine ⟨h1.1, ?_⟩
    show 8 + (q_ml y2 + 11) + 36 * d ≤ R.locals
    have := h1.2
    omega
  have hGd : GoodIn qTB (q_ws y2) := q_good (fun w h => h) hy2
  have hfix : CallFix p m co (q_cb y) (q_ml y) s args qTB (q_os (q_on y)) := ⟨hX.1, hX.2.1, hX.2.2.1, hX.2.2.2.1, hts⟩
  have hcw : CallB R s args (q_os (q_on y)) idx (q_yn y2) (q_cb y2) (q_ml y2) (q_rt y2) (q_ws y2) (q_Rm d (q_n M1 - q_n M) (q_sl (q_n M1) - q_sl (q_n M))) (q_n M1 - q_n M) (q_sl (q_n M1) - q_sl (q_n M)) (q_na y2) ∧ (Cond.static (q_yn y2)).before args s = true :=
    ⟨callB_of (q_na y2) hts hGd rfl rfl rfl (hts _ m2) (hts _ (q_inp_TB hw.2.1)) m3 hroom, hts _ (q_inp_TB hw.2.2)⟩
  have hstk : (as.reverse ++ rest).map (q_cv N0 kv) = (as.map (q_cv N0 kv)).reverse ++ rest.map (q_cv N0 kv) := by simp [List.map_reverse, q_cv]
  refine q_callW (rest := rest.map (q_cv N0 kv)) (va_runS hfix (hmet l D dA kv N0) hcw ⟨q_blind D dA kv N0 M _, q_pre hF hW hS (as.map (q_cv N0 kv))⟩ (g := F0 m pc ls ((as.reverse ++ rest).map (q_cv N0 kv))) rfl (by rw [List.length_map]; exact hna) hL.2.1 hstk (lv_room (by rw [q_sumc hF.2.2.2.1]; exact hcat)) (q_dec hp) ⟨q_roomC hn hle1 hle hB.2.2.1.1, q_roomD hn hle1 hle hB.2.2.1.2⟩) hS (fun H1 locs1 hW1 hS1 => ?_)
  have k := g l D dA kv N0 n0 p e s m args below meth co R Q hB (Nat.le_trans hn hle1) H1 locs1 ls hL hW1 hS1
  have k : W p l e R s m args below meth co H1 locs1 (q_n M1 - n0) (q_sl (q_n M1) - q_sl n0) Q (F0 m (pc + 3) ls ((r1.toList ++ rest).map (q_cv N0 kv))) := k
  rw [← q_map_app] at k
  exact W.cs (q_stepC hn hle1) (q_stepD hn hle1) k
theorem G_callI {d y pc : Nat} {ll : List (Option Value)} {M : qM} {r : Option Value} {M' : qM} {idx y2 : Nat} {b : Nat} {as rest : List Value} {r1 : Option Value} {M1 : qM} (hp : q_pg y pc = some (.invokespecial idx, 3)) (hc : q_ck (q_on y) idx = some (2, y2))  (hna : as.length = q_na y2) (hcat : (rest.map Value.category).sum ≤ 8) (hm : GM d y2 (.ref b :: as) M r1 M1) (hle : q_n M1 ≤ q_n M') (g : G (d + 1) y (pc + 3, ll, r1.toList ++ rest, M1) r M') : G (d + 1) y (pc, ll, as.reverse ++ .ref b :: rest, M) r M' := by
  intro l D dA kv N0 n0 p e s m args below meth co R Q hB hn H locs ls hL hW hS
  have hX := hB.1
  have hts := hX.2.2.2.2.1
  have hF := hX.2.2.2.2.2.2.1
  obtain ⟨p1, p2, p3, hw⟩ := q_cl1 (q_on1 (q_ylt hp)).1 hc
  simp only [q_clb, Bool.and_eq_true, decide_eq_true_eq] at hw
  obtain ⟨hy2, hle1, hmet⟩ := hm
  obtain ⟨m1, m2, m3, m4, m5⟩ := q_mt1 hy2
  have hroom : (q_Rm d (q_n M1 - q_n M) (q_sl (q_n M1) - q_sl (q_n M))).frames + 1 ≤ R.frames ∧ 8 + (q_ml y2 + 11) + (q_Rm d (q_n M1 - q_n M) (q_sl (q_n M1) - q_sl (q_n M))).locals ≤ R.locals := by
    have h1 := hB.2.1
    refine ⟨h1.1, ?_⟩
    show 8 + (q_ml y2 + 11) + 36 * d ≤ R.locals
    have := h1.2
    omega
  have hGd : GoodIn qTB (q_ws y2) := q_good (fun w h => h) hy2
  have hfix : CallFix p m co (q_cb y) (q_ml y) s args qTB (q_os (q_on y)) := ⟨hX.1, hX.2.1, hX.2.2.1, hX.2.2.2.1, hts⟩
  have hcw : CallB R s args (q_os (q_on y)) idx (q_yn y2) (q_cb y2) (q_ml y2) none (q_ws y2) (q_Rm d (q_n M1 - q_n M) (q_sl (q_n M1) - q_sl (q_n M))) (q_n M1 - q_n M) (q_sl (q_n M1) - q_sl (q_n M)) (q_na y2) ∧ (q_yn y2).name = "<init>" ∧ (Cond.instanceMethod (q_yn y2)).before args s = true :=
    ⟨callB_of (q_na y2) hts hGd (by rw [← hw.2.2]; rfl) rfl rfl (hts _ m2) (hts _ (q_inp_TB hw.2.1.1.1)) m3 hroom, hw.2.1.2, hts _ (q_inp_TB hw.2.1.1.2)⟩
  have hstk : (as.reverse ++ .ref b :: rest).map (q_cv N0 kv) = (as.map (q_cv N0 kv)).reverse ++ .ref (N0 + b) :: rest.map (q_cv N0 kv) := by simp [List.map_reverse, q_cv]
  refine q_callW (rest := rest.map (q_cv N0 kv)) (va_runI hfix (hmet l D dA kv N0) hcw ⟨q_blind D dA kv N0 M _, q_pre hF hW hS ((.ref b :: as).map (q_cv N0 kv))⟩ (g := F0 m pc ls ((as.reverse ++ .ref b :: rest).map (q_cv N0 kv))) rfl (by rw [List.length_map]; exact hna) hL.2.1 hstk (lv_room (by rw [q_sumc hF.2.2.2.1]; exact hcat)) (q_dec hp) ⟨q_roomC hn hle1 hle hB.2.2.1.1, q_roomD hn hle1 hle hB.2.2.1.2⟩) hS (fun H1 locs1 hW1 hS1 => ?_)
  have k := g l D dA kv N0 n0 p e s m args below meth co R Q hB (Nat.le_trans hn hle1) H1 locs1 ls hL hW1 hS1
  have k : W p l e R s m args below meth co H1 locs1 (q_n M1 - n0) (q_sl (q_n M1) - q_sl n0) Q (F0 m (pc + 3) ls ((r1.toList ++ rest).map (q_cv N0 kv))) := k
  rw [← q_map_app] at k
  exact W.cs (q_stepC hn hle1) (q_stepD hn hle1) k
theorem G_callN {d y pc : Nat} {ll : List (Option Value)} {M : qM} {r : Option Value} {M' : qM} {idx y2 : Nat} {b : Nat} {as rest : List Value} {r1 : Option Value} {M1 : qM} (hp : q_pg y pc = some (.invokespecial idx, 3)) (hc : q_ck (q_on y) idx = some (3, y2))  (hna : as.length = q_na y2) (hcat : (rest.map Value.category).sum ≤ 8) (hm : GM d y2 (.ref b :: as) M r1 M1) (hle : q_n M1 ≤ q_n M') (g : G (d + 1) y (pc + 3, ll, r1.toList ++ rest, M1) r M') : G (d + 1) y (pc, ll, as.reverse ++ .ref b :: rest, M) r M' := by
  intro l D dA kv N0 n0 p e s m args below meth co R Q hB hn H locs ls hL hW hS
  have hX := hB.1
  have hts := hX.2.2.2.2.1
  have hF := hX.2.2.2.2.2.2.1
  obtain ⟨p1, p2, p3, hw⟩ := q_cl1 (q_on1 (q_ylt hp)).1 hc
  simp only [q_clb, Bool.and_eq_true, decide_eq_true_eq] at hw
  obtain ⟨hy2, hle1, hmet⟩ := hm
  obtain ⟨m1, m2, m3, m4, m5⟩ := q_mt1 hy2
  have hroom : (q_Rm d (q_n M1 - q_n M) (q_sl (q_n M1) - q_sl (q_n M))).frames + 1 ≤ R.frames ∧ 8 + (q_ml y2 + 11) + (q_Rm d (q_n M1 - q_n M) (q_sl (q_n M1) - q_sl (q_n M))).locals ≤ R.locals := by
    have h1 := hB.2.1
    refine ⟨h1.1, ?_⟩
    show 8 + (q_ml y2 + 11) + 36 * d ≤ R.locals
    have := h1.2
    omega
  have hGd : GoodIn qTB (q_ws y2) := q_good (fun w h => h) hy2
  have hfix : CallFix p m co (q_cb y) (q_ml y) s args qTB (q_os (q_on y)) := ⟨hX.1, hX.2.1, hX.2.2.1, hX.2.2.2.1, hts⟩
  have hcw : va_CN R s args (q_os (q_on y)) idx (q_yn y2) RX8 (q_cb y2) (q_ml y2) none (q_ws y2) (q_Rm d (q_n M1 - q_n M) (q_sl (q_n M1) - q_sl (q_n M))) (q_n M1 - q_n M) (q_sl (q_n M1) - q_sl (q_n M)) (q_na y2) ∧ (q_yn y2).name = "<init>" ∧ (Cond.instanceMethod (q_yn y2)).before args s = true :=
    ⟨va_cnB (q_na y2) hts hGd (by rw [← hw.2.2]; rfl) rfl rfl (hF.2.1 _ (List.mem_of_getElem? hw.2.1.1.1)) (hts _ m2) m3 hroom, hw.2.1.2, hts _ (q_inp_TB hw.2.1.1.2)⟩
  have hstk : (as.reverse ++ .ref b :: rest).map (q_cv N0 kv) = (as.map (q_cv N0 kv)).reverse ++ .ref (N0 + b) :: rest.map (q_cv N0 kv) := by simp [List.map_reverse, q_cv]
  refine q_callW (rest := rest.map (q_cv N0 kv)) (va_runIN hfix (hmet l D dA kv N0) hcw ⟨q_blind D dA kv N0 M _, q_pre hF hW hS ((.ref b :: as).map (q_cv N0 kv))⟩ (g := F0 m pc ls ((as.reverse ++ .ref b :: rest).map (q_cv N0 kv))) rfl (by rw [List.length_map]; exact hna) hL.2.1 hstk (lv_room (by rw [q_sumc hF.2.2.2.1]; exact hcat)) (q_dec hp) ⟨q_roomC hn hle1 hle hB.2.2.1.1, q_roomD hn hle1 hle hB.2.2.1.2⟩) hS (fun H1 locs1 hW1 hS1 => ?_)
  have k := g l D dA kv N0 n0 p e s m args below meth co R Q hB (Nat.le_trans hn hle1) H1 locs1 ls hL hW1 hS1
  have k : W p l e R s m args below meth co H1 locs1 (q_n M1 - n0) (q_sl (q_n M1) - q_sl n0) Q (F0 m (pc + 3) ls ((r1.toList ++ rest).map (q_cv N0 kv))) := k
  rw [← q_map_app] at k
  exact W.cs (q_stepC hn hle1) (q_stepD hn hle1) k
/-! ===== ends, contracts ===== -/
theorem G_end {d y pc : Nat} {ll : List (Option Value)} {r : Option Value} {M' : qM} (hp : q_pg y pc = some (q_ri (q_rt y), 1)) : G d y (pc, ll, r.toList, M') r M' := by
  intro l D dA kv N0 n0 p e s m args below meth co R Q hB hn H locs ls hL hW hS
  have h := hB.2.2.2 pc H locs ls (q_dec hp) hW hS
  have e : (r.map (q_cv N0 kv)).toList = r.toList.map (q_cv N0 kv) := by cases r <;> rfl
  rw [e] at h
  exact h
theorem G_iret {d y pc : Nat} {ll : List (Option Value)} {v : Int32} {r : Option Value} {M M' : qM} (hp : q_pg y pc = some (.ireturn, 1)) (hri : q_ri (q_rt y) = .ireturn) (hr : some (.int v) = r) (hM : M = M') : G d y (pc, ll, [.int v], M) r M' := by
  subst hr; subst hM
  exact G_end (r := some (.int v)) (by rw [hri]; exact hp)
theorem G_lret {d y pc : Nat} {ll : List (Option Value)} {v : Int64} {r : Option Value} {M M' : qM} (hp : q_pg y pc = some (.lreturn, 1)) (hri : q_ri (q_rt y) = .lreturn) (hr : some (.long v) = r) (hM : M = M') : G d y (pc, ll, [.long v], M) r M' := by
  subst hr; subst hM
  exact G_end (r := some (.long v)) (by rw [hri]; exact hp)
theorem G_aret {d y pc : Nat} {ll : List (Option Value)} {v : Value} {r : Option Value} {M M' : qM} (hp : q_pg y pc = some (.areturn, 1)) (hri : q_ri (q_rt y) = .areturn) (hr : some v = r) (hM : M = M') : G d y (pc, ll, [v], M) r M' := by
  subst hr; subst hM
  exact G_end (r := some v) (by rw [hri]; exact hp)
theorem G_ret {d y pc : Nat} {ll : List (Option Value)} {r : Option Value} {M M' : qM} (hp : q_pg y pc = some (.return_, 1)) (hri : q_ri (q_rt y) = .return_) (hr : none = r) (hM : M = M') : G d y (pc, ll, [], M) r M' := by
  subst hr; subst hM
  exact G_end (r := none) (by rw [hri]; exact hp)
def q_rok (rt : Option FieldType) (r : Option Value) : Prop := match rt, r with
  | none, none => True
  | some .long, some (.long _) => True
  | some (.object _), some v => q_isr v = true
  | some .int, some (.int _) => True
  | some .boolean, some (.int v) => narrow .boolean (.int v) = .int v
  | some .byte, some (.int v) => narrow .byte (.int v) = .int v
  | some .char, some (.int v) => narrow .char (.int v) = .int v
  | _, _ => False
theorem q_en_len : ∀ (vs : List Value) (N0 : Nat) (kv : Nat → Value), (∀ k, kv k = .null ∨ ∃ a, kv k = .ref a) → (lg_sl (vs.map (q_cv N0 kv))).length = (q_en vs).length
  | [], _, _, _ => rfl
  | v :: t, N0, kv, h => by
    have ih := q_en_len t N0 kv h
    have hc := q_cv_cat (N0 := N0) h v
    rw [List.map_cons]
    unfold lg_sl at ih ⊢
    rw [List.flatMap_cons, List.length_append, ih, hc]
    cases v <;> simp [q_en, Value.category] <;> omega
theorem q_en_args (cv : Value → Value) (hcv : ∀ v, (cv v).category = v.category) : ∀ (vs : List Value) (i n : Nat), ∀ q ∈ q_as cv i (q_en vs ++ List.replicate n none), q ∈ lv_args i (vs.map cv)
  | [], i, n, q, h => by
    have : ∀ (n i : Nat), q_as cv i (List.replicate n none) = [] := by
      intro n
      induction n with
      | zero => intro i; rfl
      | succ n ih => intro i; rw [List.replicate_succ]; exact ih (i + 1)
    have h : q ∈ q_as cv i (List.replicate n none) := h
    rw [this] at h
    cases h
  | v :: t, i, n, q, h => by
    have h2 := q_en_args cv hcv t
    have hc := hcv v
    rw [List.map_cons]
    unfold lv_args
    rw [hc]
    cases v with
    | long x =>
      have h : q ∈ (i, cv (.long x)) :: q_as cv (i + 1 + 1) (q_en t ++ List.replicate n none) := h
      rcases List.mem_cons.mp h with h | h
      · rw [h]; exact List.mem_cons_self
      · exact List.mem_cons_of_mem _ (h2 (i + 2) n q h)
    | double x =>
      have h : q ∈ (i, cv (.double x)) :: q_as cv (i + 1 + 1) (q_en t ++ List.replicate n none) := h
      rcases List.mem_cons.mp h with h | h
      · rw [h]; exact List.mem_cons_self
      · exact List.mem_cons_of_mem _ (h2 (i + 2) n q h)
    | _ =>
      rcases List.mem_cons.mp h with h | h
      · rw [h]; exact List.mem_cons_self
      · exact List.mem_cons_of_mem _ (h2 (i + 1) n q h)
theorem q_ofW {l : Launch} {y : MethodName} {ws ws' : List Cond} {rm : Room} {Pc : Array Value → State → Prop} {Qc : Array Value → State → Outcome → State → Prop} {mc ms : Nat} {free : Addr → Prop} {cc : ByteArray} {maxL : Nat} {ret : Option FieldType}
    (hy : plainFor y = true) (hw : ws = Cond.code y cc maxL ret :: ws')
    (body : ∀ p e s m args below meth c s₁, BodyLoose p l y (headSpec ws rm) cc maxL ret e s m args below meth c s₁ → c.maxLocals = maxL → Pc args s →
      W p l e (headSpec ws rm).room s m args below meth c s.heap [] 0 0 (MQ below Qc args s mc ms free) (entryFrame m args maxL)) : Met l y ws rm Pc Qc mc ms free := by
  refine MetFree.of_bodySF (code := cc) (maxLocals := maxL) (ret := ret) hy ?_ ?_
  · intro args s m h hn
    obtain ⟨meth, c, h1, h2, h3, h4, h5, h6, -, -⟩ := Cond.code_spec hn (atoms_spec (ws := ws) h _ (by rw [hw]; exact List.mem_cons_self))
    exact ⟨meth, c, h1, h2, h3, h4, h5, h6⟩
  · intro p e s m args below meth c s₁ B hml hP _
    have hh0 : s₁.heap = s.heap := by rw [B.state]; rfl
    obtain ⟨t, a1, o, b1, b2, b3⟩ := body p e s m args below meth c s₁ B hml hP s₁ hh0 (Stand.of_body B)
    exact ⟨t, o, a1, b1, b2, ⟨b3.1, b3.2⟩⟩
theorem GM_of {d y : Nat} {av : List Value} {M : qM} {r : Option Value} {M' : qM} (hy : y < 161) (hle : q_n M ≤ q_n M') (hlen : (q_en av).length ≤ q_ml y) (hr : q_rok (q_rt y) r) (g : G d y (0, q_e0 (q_ml y) av, [], M) r M') : GM d y av M r M' := by
  refine ⟨hy, hle, fun l D dA kv N0 => ?_⟩
  obtain ⟨m1, m2, m3, m4, m5⟩ := q_mt1 hy
  refine q_ofW (cc := q_cb y) (maxL := q_ml y) (ret := q_rt y) m4 rfl ?_
  intro p e s m args below meth co s₁ B hml hv
  obtain ⟨rfl, hF, hW⟩ := hv
  have hts : ∀ w ∈ q_ws y, w.before ((av.map (q_cv N0 kv)).toArray) s = true := atoms_spec (ws := q_ws y) B.pre
  have hown : s.vm.findClass (q_yn y).cls = some m.cls := findClass_of_methodNamed B.named
  have hX : q_X D dA kv N0 y p s m ((av.map (q_cv N0 kv)).toArray) meth co := ⟨B.exec, B.bytes, hml, by rw [← (q_on1 (by omega)).2]; exact hown, fun w hw => hts w (List.mem_cons_of_mem _ hw), (name_of_methodNamed B.named B.method).1, hF, by rw [hW.1]; omega⟩
  have hlocks := B.notSynchronized
  have hS : va_S (q_A N0) s.heap s.heap [] := va_S.rf
  rw [lg_entry_eq]
  have hl := lv_entry (av.map (q_cv N0 kv)) (n := q_ml y) (by rw [q_en_len av N0 kv hF.2.2.2.1]; exact hlen)
  generalize ((lg_sl (av.map (q_cv N0 kv)) ++ List.replicate (q_ml y - (lg_sl (av.map (q_cv N0 kv))).length) Slot.unset).toArray) = ls at hl ⊢
  have hL : q_L (q_cv N0 kv) (q_ml y) ls (q_e0 (q_ml y) av) := by
    refine ⟨?_, q_has_sub hl (q_en_args (q_cv N0 kv) (q_cv_cat hF.2.2.2.1) av 0 _)⟩
    unfold q_e0
    rw [List.length_append, List.length_replicate]
    omega
  refine W.cs (Nat.sub_self (q_n M)).symm (Nat.sub_self (q_sl (q_n M))).symm ?_
  refine g l D dA kv N0 (q_n M) p e s m _ below meth co _ _ ⟨hX, ⟨Nat.le_refl _, Nat.le_refl _⟩, ⟨Nat.le_refl _, Nat.le_refl _⟩, ?_⟩ (Nat.le_refl _) s.heap [] ls hL hW hS
  intro pc H locs ls2 hd hW2 hS2
  have hrt := B.returns
  generalize q_rt y = rt at hr hd hrt
  unfold q_rok at hr
  split at hr
  · exact W.vret B.exec B.bytes hrt (fun t ht _ => ⟨rfl, by rw [ht]; exact hW2, hS2.F ht⟩) hS2.2.2 hd
  · exact W.lret B.exec B.bytes hrt (fun t ht _ => ⟨rfl, by rw [ht]; exact hW2, hS2.F ht⟩) hS2.2.2 hd
  · exact W.aret B.exec B.bytes hrt (Or.inl ⟨_, rfl⟩) (q_cv_rf hF.2.2.2.1 (q_isr_or hr)) (fun t ht _ => ⟨rfl, by rw [ht]; exact hW2, hS2.F ht⟩) hS2.2.2 hd
  · exact W.iret B.exec B.bytes hrt (fun t ht _ => ⟨rfl, by rw [ht]; exact hW2, hS2.F ht⟩) hS2.2.2 hd
  · exact W.zret B.exec B.bytes hrt hr (fun t ht _ => ⟨rfl, by rw [ht]; exact hW2, hS2.F ht⟩) hS2.2.2 hd
  · exact W.zret B.exec B.bytes hrt hr (fun t ht _ => ⟨rfl, by rw [ht]; exact hW2, hS2.F ht⟩) hS2.2.2 hd
  · exact W.zret B.exec B.bytes hrt hr (fun t ht _ => ⟨rfl, by rw [ht]; exact hW2, hS2.F ht⟩) hS2.2.2 hd
  · exact absurd hr id
