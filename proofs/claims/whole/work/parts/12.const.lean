/-! ===== constants: static rows, String constants ===== -/
def q_gs (o idx : Nat) : Option (Value × String × String × String) := match o, idx with
  | 2, 45 => some (.float 0, "SlateQuarry$LawBook", "UNTOLD", "[I")
  | 2, 52 => some (.float 1, "SlateQuarry$LawBook", "LEAST", "[I")
  | 2, 55 => some (.float 2, "SlateQuarry$LawBook", "GREATEST", "[I")
  | 12, 38 => some (.int 1, "java/lang/String", "COMPACT_STRINGS", "Z")
  | 12, 1053 => some (.float 13, "jdk/internal/util/Preconditions", "SIOOBE_FORMATTER", "Ljava/util/function/BiFunction;")
  | _, _ => none
theorem q_gs0 : q_in (.fieldLink (q_os 2) 45 "SlateQuarry$LawBook" "UNTOLD" "[I") = true ∧ q_in (.fieldLink (q_os 2) 52 "SlateQuarry$LawBook" "LEAST" "[I") = true ∧ q_in (.fieldLink (q_os 2) 55 "SlateQuarry$LawBook" "GREATEST" "[I") = true ∧ q_in (.fieldLink (q_os 12) 38 "java/lang/String" "COMPACT_STRINGS" "Z") = true ∧ q_in (.fieldLink (q_os 12) 1053 "jdk/internal/util/Preconditions" "SIOOBE_FORMATTER" "Ljava/util/function/BiFunction;") = true ∧ q_in (.fieldLink (q_os 12) 9 "java/lang/String" "value" "[B") = true ∧ q_in (.fieldLink (q_os 12) 15 "java/lang/String" "coder" "B") = true := by decide +kernel
theorem q_gs1 {o idx : Nat} {v : Value} {C n d : String} (h : q_gs o idx = some (v, C, n, d)) : Cond.fieldLink (q_os o) idx C n d ∈ qTB ∧ ∀ (kv : Nat → Value) (N0 : Nat) (A : Nat → Prop) (U : State) (H : Heap), q_KF kv A U H → va_Z C n d (q_cv N0 kv v) A U H := by
  obtain ⟨g1, g2, g3, g4, g5, -, -⟩ := q_gs0
  unfold q_gs at h
  split at h
  · cases h
    refine ⟨q_in_TB g1, fun kv N0 A U H hK => ?_⟩
    obtain ⟨t, e, hz, -⟩ := hK.1 (0, "UNTOLD", 4, [-4, -4, 0, 0]) (by decide)
    have e : kv 0 = .ref t := e
    show va_Z _ _ _ (kv 0) A U H
    rw [e]; exact hz
  · cases h
    refine ⟨q_in_TB g2, fun kv N0 A U H hK => ?_⟩
    obtain ⟨t, e, hz, -⟩ := hK.1 (1, "LEAST", 5, [0, 1, 0, 0, 0]) (by decide)
    have e : kv 1 = .ref t := e
    show va_Z _ _ _ (kv 1) A U H
    rw [e]; exact hz
  · cases h
    refine ⟨q_in_TB g3, fun kv N0 A U H hK => ?_⟩
    obtain ⟨t, e, hz, -⟩ := hK.1 (2, "GREATEST", 5, [9999, 20, 999, 100, 9]) (by decide)
    have e : kv 2 = .ref t := e
    show va_Z _ _ _ (kv 2) A U H
    rw [e]; exact hz
  · cases h
    exact ⟨q_in_TB g4, fun kv N0 A U H hK => hK.2.1⟩
  · cases h
    exact ⟨q_in_TB g5, fun kv N0 A U H hK => hK.2.2.1⟩
  · cases h
theorem G_gets {d y pc : Nat} {ll : List (Option Value)} {st : List Value} {M : qM} {r : Option Value} {M' : qM} {idx : Nat} {x : Value} {C n f : String} (hp : q_pg y pc = some (.getstatic idx, 3)) (hc : q_gs (q_on y) idx = some (x, C, n, f)) (g : G d y (pc + 3, ll, x :: st, M) r M') : G d y (pc, ll, st, M) r M' := by
  refine G_same g fun l D dA kv N0 p e s m args below meth co R Q hX hR H locs ls cells slots hL hW hS k => ?_
  obtain ⟨h1, h2⟩ := q_gs1 hc
  exact va_gets hX.1 hX.2.1 (h2 kv N0 _ _ _ hX.2.2.2.2.2.2.1.2.2.2.2) hS hX.2.2.2.1 (hX.2.2.2.2.1 _ h1) (fun _ h => h) (q_dec hp) (k ls hL)
theorem q_ks1 {idx i : Nat} {tx : String} (h : (i, idx, tx) ∈ q_ks) : i < 5 := by
  simp [q_ks] at h
  omega
theorem G_ldcS {d y pc : Nat} {ll : List (Option Value)} {st : List Value} {M : qM} {r : Option Value} {M' : qM} {idx i : Nat} {tx : String} {x : UInt32} (hp : q_pg y pc = some (.ldc idx, 2)) (ho : q_os (q_on y) = "SlateQuarry$LawBook") (hc : (i, idx, tx) ∈ q_ks) (hx : x.toNat = 3 + i) (g : G d y (pc + 2, ll, .float x :: st, M) r M') : G d y (pc, ll, st, M) r M' := by
  refine G_same g fun l D dA kv N0 p e s m args below meth co R Q hX hR H locs ls cells slots hL hW hS k => ?_
  obtain ⟨-, -, -, adK, adV, h4, h5, h6⟩ := hX.2.2.2.2.2.2.1.2.2.2.2
  have k1 := k ls hL
  have ee : q_cv N0 kv (.float x) = .ref (adK i) := by
    show kv x.toNat = _
    rw [hx]; exact (h5 i (q_ks1 hc)).1
  rw [List.map_cons, ee] at k1
  exact va_ldcS hX.1 hX.2.1 (by rw [← ho]; exact hX.2.2.2.1) (h6 _ hc) (q_dec hp) k1
theorem G_getV {d y pc : Nat} {ll : List (Option Value)} {st : List Value} {M : qM} {r : Option Value} {M' : qM} {i : Nat} {x z : UInt32} (hp : q_pg y pc = some (.getfield 9, 3)) (ho : q_on y = 12) (hi : i < 5) (hx : x.toNat = 3 + i) (hz : z.toNat = 8 + i) (g : G d y (pc + 3, ll, .float z :: st, M) r M') : G d y (pc, ll, .float x :: st, M) r M' := by
  refine G_same g fun l D dA kv N0 p e s m args below meth co R Q hX hR H locs ls cells slots hL hW hS k => ?_
  obtain ⟨-, -, -, adK, adV, h4, h5, h6⟩ := hX.2.2.2.2.2.2.1.2.2.2.2
  have k1 := k ls hL
  have ee : q_cv N0 kv (.float x) = .ref (adK i) := by
    show kv x.toNat = _
    rw [hx]; exact (h5 i hi).1
  have e2 : q_cv N0 kv (.float z) = .ref (adV i) := by
    show kv z.toNat = _
    rw [hz]; exact (h5 i hi).2
  rw [List.map_cons, e2] at k1
  show W p l e R s m args below meth co H locs cells slots Q (F0 m pc ls (q_cv N0 kv (.float x) :: st.map (q_cv N0 kv)))
  rw [ee]
  exact vk_getf hX.1 hX.2.1 (h4.1 i hi).2.2.1 hS hX.2.2.2.1 (hX.2.2.2.2.1 _ (by rw [ho]; exact q_in_TB q_gs0.2.2.2.2.2.1)) (fun _ h => h) (q_dec hp) k1
theorem G_getC {d y pc : Nat} {ll : List (Option Value)} {st : List Value} {M : qM} {r : Option Value} {M' : qM} {i : Nat} {x : UInt32} (hp : q_pg y pc = some (.getfield 15, 3)) (ho : q_on y = 12) (hi : i < 5) (hx : x.toNat = 3 + i) (g : G d y (pc + 3, ll, .int 0 :: st, M) r M') : G d y (pc, ll, .float x :: st, M) r M' := by
  refine G_same g fun l D dA kv N0 p e s m args below meth co R Q hX hR H locs ls cells slots hL hW hS k => ?_
  obtain ⟨-, -, -, adK, adV, h4, h5, h6⟩ := hX.2.2.2.2.2.2.1.2.2.2.2
  have ee : q_cv N0 kv (.float x) = .ref (adK i) := by
    show kv x.toNat = _
    rw [hx]; exact (h5 i hi).1
  show W p l e R s m args below meth co H locs cells slots Q (F0 m pc ls (q_cv N0 kv (.float x) :: st.map (q_cv N0 kv)))
  rw [ee]
  exact vk_getf hX.1 hX.2.1 (h4.1 i hi).2.1 hS hX.2.2.2.1 (hX.2.2.2.2.1 _ (by rw [ho]; exact q_in_TB q_gs0.2.2.2.2.2.2)) (fun _ h => h) (q_dec hp) (k ls hL)
theorem G_alenK {d y pc : Nat} {ll : List (Option Value)} {st : List Value} {M : qM} {r : Option Value} {M' : qM} {i : Nat} {x : UInt32} {n : Int32} (hp : q_pg y pc = some (.arraylength, 1)) (hi : i < 5) (hx : x.toNat = 8 + i) (hn : Int32.ofNat (q_sln.getD i 0) = n) (g : G d y (pc + 1, ll, .int n :: st, M) r M') : G d y (pc, ll, .float x :: st, M) r M' := by
  refine G_same g fun l D dA kv N0 p e s m args below meth co R Q hX hR H locs ls cells slots hL hW hS k => ?_
  obtain ⟨-, -, -, adK, adV, h4, h5, h6⟩ := hX.2.2.2.2.2.2.1.2.2.2.2
  have ee : q_cv N0 kv (.float x) = .ref (adV i) := by
    show kv x.toNat = _
    rw [hx]; exact (h5 i hi).2
  show W p l e R s m args below meth co H locs cells slots Q (F0 m pc ls (q_cv N0 kv (.float x) :: st.map (q_cv N0 kv)))
  rw [ee]
  exact va_tlen hX.1 hX.2.1 (h4.1 i hi).2.2.2 hS hn (q_dec hp) (k ls hL)
theorem G_baldK {d y pc : Nat} {ll : List (Option Value)} {st : List Value} {M : qM} {r : Option Value} {M' : qM} {i : Nat} {x : UInt32} {j n : Int32} (hp : q_pg y pc = some (.baload, 1)) (hi : i < 5) (hx : x.toNat = 8 + i) (hin : vp_in j (q_sln.getD i 0)) (hn : (q_sby.getD i []).getD j.toNatClampNeg 0 = n) (g : G d y (pc + 1, ll, .int n :: st, M) r M') : G d y (pc, ll, .int j :: .float x :: st, M) r M' := by
  refine G_same g fun l D dA kv N0 p e s m args below meth co R Q hX hR H locs ls cells slots hL hW hS k => ?_
  obtain ⟨-, -, -, adK, adV, h4, h5, h6⟩ := hX.2.2.2.2.2.2.1.2.2.2.2
  have ee : q_cv N0 kv (.float x) = .ref (adV i) := by
    show kv x.toNat = _
    rw [hx]; exact (h5 i hi).2
  show W p l e R s m args below meth co H locs cells slots Q (F0 m pc ls (.int j :: q_cv N0 kv (.float x) :: st.map (q_cv N0 kv)))
  rw [ee]
  exact va_tb hX.1 hX.2.1 (h4.1 i hi).2.2.2 hS hin (by rw [← hn]; rfl) (q_dec hp) (k ls hL)
theorem G_ialdK {d y pc : Nat} {ll : List (Option Value)} {st : List Value} {M : qM} {r : Option Value} {M' : qM} {q : Nat × String × Nat × List Int32} {x : UInt32} {j n : Int32} (hp : q_pg y pc = some (.iaload, 1)) (hq : q ∈ q_ka) (hx : x.toNat = q.1) (hin : vp_in j q.2.2.1) (hn : q.2.2.2.getD j.toNatClampNeg 0 = n) (g : G d y (pc + 1, ll, .int n :: st, M) r M') : G d y (pc, ll, .int j :: .float x :: st, M) r M' := by
  refine G_same g fun l D dA kv N0 p e s m args below meth co R Q hX hR H locs ls cells slots hL hW hS k => ?_
  obtain ⟨t, e1, -, hT⟩ := hX.2.2.2.2.2.2.1.2.2.2.2.1 q hq
  have ee : q_cv N0 kv (.float x) = .ref t := by
    show kv x.toNat = _
    rw [hx]; exact e1
  show W p l e R s m args below meth co H locs cells slots Q (F0 m pc ls (.int j :: q_cv N0 kv (.float x) :: st.map (q_cv N0 kv)))
  rw [ee]
  exact va_ti hX.1 hX.2.1 hT hS hin (by rw [← hn]; rfl) (q_dec hp) (k ls hL)
theorem G_callK {d y pc : Nat} {ll : List (Option Value)} {M : qM} {r : Option Value} {M' : qM} {idx y2 : Nat} {i : Nat} {x : UInt32} {as rest : List Value} {r1 : Option Value} {M1 : qM} (hp : q_pg y pc = some (.invokevirtual idx, 3)) (hc : q_ck (q_on y) idx = some (0, y2)) (hi : i < 5) (hx : x.toNat = 3 + i) (hcls : (q_yn y2).cls = "java/lang/String") (hna : as.length = q_na y2) (hcat : (rest.map Value.category).sum ≤ 8) (hm : GM d y2 (.float x :: as) M r1 M1) (hle : q_n M1 ≤ q_n M') (g : G (d + 1) y (pc + 3, ll, r1.toList ++ rest, M1) r M') : G (d + 1) y (pc, ll, as.reverse ++ .float x :: rest, M) r M' := by
  intro l D dA kv N0 n0 p e s m args below meth co R Q hB hn H locs ls hL hW hS
  have hX := hB.1
  have hts := hX.2.2.2.2.1
  have hF := hX.2.2.2.2.2.2.1
  obtain ⟨p1, p2, p3, hw⟩ := q_cl1 (q_on1 (q_ylt hp)).1 hc
  simp only [q_clb, Bool.and_eq_true, decide_eq_true_eq] at hw
  obtain ⟨hy2, hle1, hmet⟩ := hm
  obtain ⟨m1, m2, m3, m4, m5⟩ := q_mt1 hy2
  have hroom : (q_Rm d (q_n M1 - q_n M) (q_sl (q_n M1) - q_sl (q_n M))).frames + 1 ≤ R.frames ∧ 8 + (q_ml y2 + 11) + (q_Rm d (q_n M1 - q_n M) (q_sl (q_n M1) - q_sl (q_n M))).locals ≤ R.locals := by
    have h1 := hB.2.1
    refine ⟨h1.1, ?_⟩
    show 8 + (q_ml y2 + 11) + 36 * d ≤ R.locals
    have := h1.2
    omega
  have hGd : GoodIn qTB (q_ws y2) := q_good (fun w h => h) hy2
  have hfix : CallFix p m co (q_cb y) (q_ml y) s args qTB (q_os (q_on y)) := ⟨hX.1, hX.2.1, hX.2.2.1, hX.2.2.2.1, hts⟩
  obtain ⟨-, -, -, adK, adV, h4, h5, h6⟩ := hF.2.2.2.2
  have ex : kv x.toNat = .ref (adK i) := by rw [hx]; exact (h5 i hi).1
  have hcw : CallW R s args (q_os (q_on y)) (q_yn y2).cls idx (q_yn y2) (q_cb y2) (q_ml y2) (q_rt y2) (q_ws y2) (q_Rm d (q_n M1 - q_n M) (q_sl (q_n M1) - q_sl (q_n M))) (q_n M1 - q_n M) (q_sl (q_n M1) - q_sl (q_n M)) (q_na y2) :=
    ⟨callB_of (q_na y2) hts hGd rfl rfl rfl (hts _ m2) (hts _ (q_inp_TB hw.2.1.1)) m3 hroom, hts _ (q_inp_TB hw.2.1.2), hts _ (q_inp_TB hw.2.2)⟩
  have hrecv : ∃ cell : Cell, H[adK i]? = some cell ∧ cell.vm.isStatics = false ∧ s.vm.findClass (q_yn y2).cls = some cell.cls := by
    rw [hcls]; exact vk_recv h4 hi hS
  have hpre := q_pre hF hW hS ((.float x :: as).map (q_cv N0 kv))
  have e9 : (Value.float x :: as).map (q_cv N0 kv) = .ref (adK i) :: as.map (q_cv N0 kv) := by rw [List.map_cons]; congr 1
  rw [e9] at hpre
  have hmet2 := hmet l D dA kv N0
  rw [e9] at hmet2
  have hstk : (as.reverse ++ .float x :: rest).map (q_cv N0 kv) = (as.map (q_cv N0 kv)).reverse ++ .ref (adK i) :: rest.map (q_cv N0 kv) := by simp [List.map_reverse, q_cv, ex]
  refine q_callW (rest := rest.map (q_cv N0 kv)) (va_runV hfix hmet2 hcw ⟨q_blind D dA kv N0 M _, hrecv, hpre⟩ (g := F0 m pc ls ((as.reverse ++ .float x :: rest).map (q_cv N0 kv))) rfl (by rw [List.length_map]; exact hna) hL.2.1 hstk (lv_room (by rw [q_sumc hF.2.2.2.1]; exact hcat)) (q_dec hp) ⟨q_roomC hn hle1 hle hB.2.2.1.1, q_roomD hn hle1 hle hB.2.2.1.2⟩) hS (fun H1 locs1 hW1 hS1 => ?_)
  have k := g l D dA kv N0 n0 p e s m args below meth co R Q hB (Nat.le_trans hn hle1) H1 locs1 ls hL hW1 hS1
  have k : W p l e R s m args below meth co H1 locs1 (q_n M1 - n0) (q_sl (q_n M1) - q_sl n0) Q (F0 m (pc + 3) ls ((r1.toList ++ rest).map (q_cv N0 kv))) := k
  rw [← q_map_app] at k
  exact W.cs (q_stepC hn hle1) (q_stepD hn hle1) k
