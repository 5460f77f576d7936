/-! ===== what holds of the machine's tables and constants; the judgement G ===== -/
theorem q_mem (w : Cond) {i : Nat} (h : lw_tbl[i]? = some w) (hg : goodWord w = true) : w ∈ lw_tbl.filter goodWord := List.mem_filter.mpr ⟨List.mem_of_getElem? h, hg⟩
def qTB : List Cond := lw_tbl.filter goodWord
def q_in (w : Cond) : Bool := decide (w ∈ lw_tbl) && goodWord w
theorem q_in_TB {w : Cond} (h : q_in w = true) : w ∈ qTB := by
  simp only [q_in, Bool.and_eq_true, decide_eq_true_eq] at h
  exact List.mem_filter.mpr h
def q_T (ci : Nat) : u_T := [TX0, TX1, TX2, TX3, TX4, TX5, TX6, TX7, TX8, TX9].getD ci TX0
theorem q_clk : ∀ ci, ci < 10 → q_cl[ci]? = some (q_os ci, q_T ci, q_nf ci)
  | 0, _ => rfl | 1, _ => rfl | 2, _ => rfl | 3, _ => rfl | 4, _ => rfl | 5, _ => rfl | 6, _ => rfl | 7, _ => rfl | 8, _ => rfl | 9, _ => rfl
  | n + 10, h => absurd h (by omega)
theorem q_lay0 : (List.range 10).all (fun ci => (u_ws (q_os ci) (q_T ci) (q_nf ci)).all q_in) = true := by decide +kernel
theorem q_lay {ci : Nat} (h : ci < 10) : ∀ w ∈ u_ws (q_os ci) (q_T ci) (q_nf ci), w ∈ qTB := fun w hw => q_in_TB (List.all_eq_true.mp (List.all_eq_true.mp q_lay0 ci (List.mem_range.mpr h)) w hw)
theorem q_fty0 : (List.range 10).all (fun ci => (List.range (q_nf ci)).all (fun k => decide (parseFieldDescriptor (q_T ci k).2.2.1 = some (q_fty ci k)))) = true := by decide +kernel
theorem q_ftyk {ci : Nat} (h : ci < 10) : ∀ k, k < q_nf ci → parseFieldDescriptor (q_T ci k).2.2.1 = some (q_fty ci k) := fun k hk => of_decide_eq_true (List.all_eq_true.mp (List.all_eq_true.mp q_fty0 ci (List.mem_range.mpr h)) k (List.mem_range.mpr hk))
theorem q_nm0 : (List.range 10).all (fun ci => (List.range (q_nf ci)).all (fun a => (List.range (q_nf ci)).all (fun b => decide (a = b) || !decide ((q_T ci a).2.1 = (q_T ci b).2.1)))) = true := by decide +kernel
theorem q_nmk {ci : Nat} (h : ci < 10) : ∀ a, a < q_nf ci → ∀ b, b < q_nf ci → a ≠ b → (q_T ci a).2.1 ≠ (q_T ci b).2.1 := fun a ha b hb hab e => by
  have h1 := List.all_eq_true.mp (List.all_eq_true.mp (List.all_eq_true.mp q_nm0 ci (List.mem_range.mpr h)) a (List.mem_range.mpr ha)) b (List.mem_range.mpr hb)
  simp [hab, e] at h1
/-- field links -/
def q_flb (o : Nat) (x : Nat × Nat × Nat) : Bool := decide (x.2.1 < 10) && decide (x.2.2 < q_nf x.2.1) && q_in (.fieldLink (q_os o) x.1 (q_T x.2.1 x.2.2).1 (q_T x.2.1 x.2.2).2.1 (q_T x.2.1 x.2.2).2.2.1)
theorem q_fl0 : (List.range 18).all (fun o => (q_fls o).all (q_flb o)) = true := by decide +kernel
theorem q_fl1 {o idx ci k : Nat} (ho : o < 18) (h : q_fl o idx = some (ci, k)) : ci < 10 ∧ k < q_nf ci ∧ Cond.fieldLink (q_os o) idx (q_T ci k).1 (q_T ci k).2.1 (q_T ci k).2.2.1 ∈ qTB := by
  unfold q_fl at h
  rw [Option.map_eq_some_iff] at h
  obtain ⟨x, h1, h2⟩ := h
  have hb := List.find?_some h1
  have hm := List.mem_of_find?_eq_some h1
  have h3 := List.all_eq_true.mp (List.all_eq_true.mp q_fl0 o (List.mem_range.mpr ho)) x hm
  obtain ⟨a, b, c⟩ := x
  cases h2
  have e : a = idx := Nat.eq_of_beq_eq_true hb
  subst e
  simp only [q_flb, Bool.and_eq_true, decide_eq_true_eq] at h3
  exact ⟨h3.1.1, h3.1.2, q_in_TB h3.2⟩
theorem q_on0 : (List.range 162).all (fun y => decide (q_on y < 18) && decide ((q_yn y).cls = q_os (q_on y))) = true := by decide +kernel
theorem q_on1 {y : Nat} (h : y < 162) : q_on y < 18 ∧ (q_yn y).cls = q_os (q_on y) := by
  have h1 := List.all_eq_true.mp q_on0 y (List.mem_range.mpr h)
  simpa only [Bool.and_eq_true, decide_eq_true_eq] using h1
/-- constants -/
def q_ctb (o : Nat) (x : Nat × Value) : Bool := match x.2 with
  | .int v => q_in (.constant (q_os o) x.1 v)
  | .long v => q_in (.constantLong (q_os o) x.1 v)
  | _ => false
theorem q_ct0 : (List.range 18).all (fun o => (q_cts o).all (q_ctb o)) = true := by decide +kernel
theorem q_ct1 {o idx : Nat} {v : Value} (ho : o < 18) (h : q_ct o idx = some v) : q_ctb o (idx, v) = true := by
  unfold q_ct at h
  rw [Option.map_eq_some_iff] at h
  obtain ⟨x, h1, h2⟩ := h
  have hb := List.find?_some h1
  have hm := List.mem_of_find?_eq_some h1
  have h3 := List.all_eq_true.mp (List.all_eq_true.mp q_ct0 o (List.mem_range.mpr ho)) x hm
  obtain ⟨a, b⟩ := x
  cases h2
  have e : a = idx := Nat.eq_of_beq_eq_true hb
  subst e
  exact h3
theorem q_cti {o idx : Nat} {v : Int32} (ho : o < 18) (h : q_ct o idx = some (.int v)) : Cond.constant (q_os o) idx v ∈ qTB := by
  have h1 := q_ct1 ho h
  unfold q_ctb at h1
  exact q_in_TB h1
theorem q_ctl {o idx : Nat} {v : Int64} (ho : o < 18) (h : q_ct o idx = some (.long v)) : Cond.constantLong (q_os o) idx v ∈ qTB := by
  have h1 := q_ct1 ho h
  unfold q_ctb at h1
  exact q_in_TB h1
/-- classes to make -/
def q_nwb (o : Nat) (x : Nat × Nat) : Bool := decide (x.2 < 10) && q_in (.classLink (q_os o) x.1 (q_os x.2)) && q_in (.instantiable (q_os x.2) (q_nf x.2)) && q_in (.initialized (q_os x.2))
theorem q_nw0 : (List.range 18).all (fun o => (q_nws o).all (q_nwb o)) = true := by decide +kernel
theorem q_nw1 {o idx ci : Nat} (ho : o < 18) (h : q_nw o idx = some ci) : ci < 10 ∧ Cond.classLink (q_os o) idx (q_os ci) ∈ qTB ∧ Cond.instantiable (q_os ci) (q_nf ci) ∈ qTB ∧ Cond.initialized (q_os ci) ∈ qTB := by
  unfold q_nw at h
  rw [Option.map_eq_some_iff] at h
  obtain ⟨x, h1, h2⟩ := h
  have hb := List.find?_some h1
  have hm := List.mem_of_find?_eq_some h1
  have h3 := List.all_eq_true.mp (List.all_eq_true.mp q_nw0 o (List.mem_range.mpr ho)) x hm
  obtain ⟨a, b⟩ := x
  cases h2
  have e : a = idx := Nat.eq_of_beq_eq_true hb
  subst e
  simp only [q_nwb, Bool.and_eq_true, decide_eq_true_eq] at h3
  exact ⟨h3.1.1.1, q_in_TB h3.1.1.2, q_in_TB h3.1.2, q_in_TB h3.2⟩
/-- calls: kind 0 virtual, 1 static, 2 a constructor, 3 a nest mate's constructor -/
def q_nl : List (String × Nat × MethodName × String) := [(RX8, 9, yX3_init, RX8), (RX3, 11, yX6_init, RX8), (RX0, 17, yX7_init, RX8), (RX8, 58, yX4_init, RX8), (RX8, 78, yX5_init, RX8)]
def q_nwd (x : String × Nat × MethodName × String) : Cond := .methodLinkNest x.1 x.2.1 x.2.2.1 x.2.2.2
def q_cd (y : Nat) : Cond := .code (q_yn y) (q_cb y) (q_ml y) (q_rt y)
def q_inp (w : Cond) (i : Nat) : Bool := decide (lw_tbl[i]? = some w) && goodWord w
theorem q_inp_TB {w : Cond} {i : Nat} (h : q_inp w i = true) : w ∈ qTB := by
  simp only [q_inp, Bool.and_eq_true, decide_eq_true_eq] at h
  exact List.mem_filter.mpr ⟨List.mem_of_getElem? h.1, h.2⟩
def q_mtb (y : Nat) : Bool := q_inp (q_cd y) (q_cpo y) && q_inp (.initialized (q_yn y).cls) (q_ipo y) && !decide ((q_yn y).cls = "java/lang/invoke/MethodHandle") && !decide ((q_yn y).cls = "java/lang/invoke/VarHandle") && decide ((parseMethodDescriptor (q_yn y).desc).map (fun d => d.parameters.length) = some (q_na y)) && plainFor (q_yn y) && decide (q_ml y ≤ 17)
theorem q_mt0_0 : (List.range' 0 20).all q_mtb = true := by decide +kernel
theorem q_mt0_1 : (List.range' 20 20).all q_mtb = true := by decide +kernel
theorem q_mt0_2 : (List.range' 40 20).all q_mtb = true := by decide +kernel
theorem q_mt0_3 : (List.range' 60 20).all q_mtb = true := by decide +kernel
theorem q_mt0_4 : (List.range' 80 20).all q_mtb = true := by decide +kernel
theorem q_mt0_5 : (List.range' 100 20).all q_mtb = true := by decide +kernel
theorem q_mt0_6 : (List.range' 120 20).all q_mtb = true := by decide +kernel
theorem q_mt0_7 : (List.range' 140 20).all q_mtb = true := by decide +kernel
theorem q_mt0_8 : (List.range' 160 1).all q_mtb = true := by decide +kernel
theorem q_mt0 {y : Nat} (h : y < 161) : q_mtb y = true := by
  by_cases h0 : y < 20
  · exact List.all_eq_true.mp q_mt0_0 y (List.mem_range'_1.mpr ⟨by omega, by omega⟩)
  by_cases h1 : y < 40
  · exact List.all_eq_true.mp q_mt0_1 y (List.mem_range'_1.mpr ⟨by omega, by omega⟩)
  by_cases h2 : y < 60
  · exact List.all_eq_true.mp q_mt0_2 y (List.mem_range'_1.mpr ⟨by omega, by omega⟩)
  by_cases h3 : y < 80
  · exact List.all_eq_true.mp q_mt0_3 y (List.mem_range'_1.mpr ⟨by omega, by omega⟩)
  by_cases h4 : y < 100
  · exact List.all_eq_true.mp q_mt0_4 y (List.mem_range'_1.mpr ⟨by omega, by omega⟩)
  by_cases h5 : y < 120
  · exact List.all_eq_true.mp q_mt0_5 y (List.mem_range'_1.mpr ⟨by omega, by omega⟩)
  by_cases h6 : y < 140
  · exact List.all_eq_true.mp q_mt0_6 y (List.mem_range'_1.mpr ⟨by omega, by omega⟩)
  by_cases h7 : y < 160
  · exact List.all_eq_true.mp q_mt0_7 y (List.mem_range'_1.mpr ⟨by omega, by omega⟩)
  exact List.all_eq_true.mp q_mt0_8 y (List.mem_range'_1.mpr ⟨by omega, by omega⟩)
theorem q_mt1 {y : Nat} (h : y < 161) : q_cd y ∈ qTB ∧ Cond.initialized (q_yn y).cls ∈ qTB ∧ ((q_yn y).cls ≠ "java/lang/invoke/MethodHandle" ∧ (q_yn y).cls ≠ "java/lang/invoke/VarHandle" ∧ (parseMethodDescriptor (q_yn y).desc).map (fun d => d.parameters.length) = some (q_na y)) ∧ plainFor (q_yn y) = true ∧ q_ml y ≤ 17 := by
  have h1 := q_mt0 h
  simp only [q_mtb, Bool.and_eq_true, decide_eq_true_eq, Bool.not_eq_true', decide_eq_false_iff_not] at h1
  obtain ⟨⟨⟨⟨⟨⟨h2, h3⟩, h4⟩, h5⟩, h6⟩, h7⟩, h8⟩ := h1
  exact ⟨q_inp_TB h2, q_inp_TB h3, ⟨h4, h5, h6⟩, h7, h8⟩
def q_clb (o : Nat) (x : Nat × Nat × Nat × Nat × Nat × Nat) : Bool := decide (x.2.2.1 < 161) && match x.2.1 with
  | 0 => q_inp (.methodLink (q_os o) x.1 (q_yn x.2.2.1)) x.2.2.2.1 && q_inp (.instanceMethod (q_yn x.2.2.1)) x.2.2.2.2.1 && q_inp (.selects (q_yn x.2.2.1).cls (q_yn x.2.2.1) (q_yn x.2.2.1)) x.2.2.2.2.2
  | 1 => q_inp (.methodLink (q_os o) x.1 (q_yn x.2.2.1)) x.2.2.2.1 && q_inp (.static (q_yn x.2.2.1)) x.2.2.2.2.1
  | 2 => q_inp (.methodLink (q_os o) x.1 (q_yn x.2.2.1)) x.2.2.2.1 && q_inp (.instanceMethod (q_yn x.2.2.1)) x.2.2.2.2.1 && decide ((q_yn x.2.2.1).name = "<init>") && decide (q_rt x.2.2.1 = none)
  | 3 => decide (q_nl[x.2.2.2.1]? = some (q_os o, x.1, q_yn x.2.2.1, RX8)) && q_inp (.instanceMethod (q_yn x.2.2.1)) x.2.2.2.2.1 && decide ((q_yn x.2.2.1).name = "<init>") && decide (q_rt x.2.2.1 = none)
  | _ => false
theorem q_cl0_0 : (q_cls 0).all (q_clb 0) = true := by decide +kernel
theorem q_cl0_1 : (q_cls 1).all (q_clb 1) = true := by decide +kernel
theorem q_cl0_2 : (q_cls 2).all (q_clb 2) = true := by decide +kernel
theorem q_cl0_3 : (q_cls 3).all (q_clb 3) = true := by decide +kernel
theorem q_cl0_4 : (q_cls 4).all (q_clb 4) = true := by decide +kernel
theorem q_cl0_5 : (q_cls 5).all (q_clb 5) = true := by decide +kernel
theorem q_cl0_6 : (q_cls 6).all (q_clb 6) = true := by decide +kernel
theorem q_cl0_7 : (q_cls 7).all (q_clb 7) = true := by decide +kernel
theorem q_cl0_8 : (q_cls 8).all (q_clb 8) = true := by decide +kernel
theorem q_cl0_9 : (q_cls 9).all (q_clb 9) = true := by decide +kernel
theorem q_cl0_10 : (q_cls 10).all (q_clb 10) = true := by decide +kernel
theorem q_cl0_11 : (q_cls 11).all (q_clb 11) = true := by decide +kernel
theorem q_cl0_12 : (q_cls 12).all (q_clb 12) = true := by decide +kernel
theorem q_cl0_13 : (q_cls 13).all (q_clb 13) = true := by decide +kernel
theorem q_cl0_14 : (q_cls 14).all (q_clb 14) = true := by decide +kernel
theorem q_cl0_15 : (q_cls 15).all (q_clb 15) = true := by decide +kernel
theorem q_cl0_16 : (q_cls 16).all (q_clb 16) = true := by decide +kernel
theorem q_cl0_17 : (q_cls 17).all (q_clb 17) = true := by decide +kernel
theorem q_cl0 : ∀ o, o < 18 → (q_cls o).all (q_clb o) = true
  | 0, _ => q_cl0_0
  | 1, _ => q_cl0_1
  | 2, _ => q_cl0_2
  | 3, _ => q_cl0_3
  | 4, _ => q_cl0_4
  | 5, _ => q_cl0_5
  | 6, _ => q_cl0_6
  | 7, _ => q_cl0_7
  | 8, _ => q_cl0_8
  | 9, _ => q_cl0_9
  | 10, _ => q_cl0_10
  | 11, _ => q_cl0_11
  | 12, _ => q_cl0_12
  | 13, _ => q_cl0_13
  | 14, _ => q_cl0_14
  | 15, _ => q_cl0_15
  | 16, _ => q_cl0_16
  | 17, _ => q_cl0_17
  | n + 18, h => absurd h (by omega)
theorem q_cl1 {o idx kd y : Nat} (ho : o < 18) (h : q_ck o idx = some (kd, y)) : ∃ p1 p2 p3, q_clb o (idx, kd, y, p1, p2, p3) = true := by
  unfold q_ck at h
  rw [Option.map_eq_some_iff] at h
  obtain ⟨x, h1, h2⟩ := h
  have hb := List.find?_some h1
  have hm := List.mem_of_find?_eq_some h1
  have h3 := List.all_eq_true.mp (q_cl0 o ho) x hm
  obtain ⟨a, b, c, p1, p2, p3⟩ := x
  cases h2
  have e : a = idx := Nat.eq_of_beq_eq_true hb
  subst e
  exact ⟨p1, p2, p3, h3⟩
theorem q_oi0 : (List.range 10).all (fun o => q_in (.methodLink (q_os o) ([5, 3, 3, 3, 3, 3, 1, 3, 1, 1].getD o 0) objectInit)) = true ∧ q_in (.instanceMethod objectInit) = true ∧ q_in (.code objectInit ⟨#[0xb1]⟩ 1 none) = true := by decide +kernel
theorem q_ac0 : q_in (.arrayClass .int) = true ∧ q_in (.arrayClass .boolean) = true ∧ q_in (.arrayClass .byte) = true ∧ q_in (.arrayClass .long) = true := by decide +kernel
