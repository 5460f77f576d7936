/-! THE CLAIM OUT OF ONE WALK OF THE LAW'S BODY. Your part is whole_start (and what it stands on); all else here is the same for every law, but numbers. -/
def R_law : String := "SlateQuarryLaw"
def lw_P (b : Addr) (xs : List Int32) (args : Array Value) (s : State) : Prop := args = #[.ref b] ∧ s.IntsAt b xs ∧ xs.length ≤ 2560 ∧ (Jvm.Cond.and given_1 narrow_1).before args s = true
def lw_Q (_ : Array Value) (s : State) (o : Outcome) (t : State) : Prop := o = .returned (some (.int 1)) ∧ Framed s o t [] 600000 7302250
def lw_Z (below : List Frame) (a : Array Value) (s : State) : State → Prop := fun t => ∃ o, t.status = .running ∧ Ended t below o ∧ lw_Q a s o t
/-- the law's own end, with 1 on the stack, nothing written that was there before, its room as the claim has it -/
theorem lw_ret {p : Program} {l : Launch} {e : Env} {s : State} {m : MethodId} {below : List Frame} {meth : Method} {c : Code} {b : Nat} (hx : p.tables.exec = Jvm.exec) (hb : c.code = code) (hr : meth.sig.returnType = ret) (hlocks : meth.locks = false) {pc : Nat} {H : Heap} {ls : Array Slot} (hdg : decode code pc = .ok (.ireturn, 1)) : W p l e room_1 s m #[Value.ref b] below meth c H [] 600000 7302250 (lw_Z below #[Value.ref b] s) (F0 m pc ls [.int 1]) := by
  intro T hT X
  obtain ⟨fs, hret, hrun, hended, hW, hframe⟩ := X.leave (v := some (.int 1)) (hlocks := hlocks) (fun h => by rw [hr] at h; cases h)
  have hmeth' : T.vm.method? m = some meth := X.method'
  refine ⟨T.setFrames fs, ?_, .returned (some (.int 1)), hrun, hended, rfl, ⟨_, rfl⟩, hW, hframe⟩
  jvm_step X.here [X.here.top, hx, hb, hdg, hmeth', hr, ret, narrow_b1]
  (try refine ⟨rfl, ?_⟩); (try refine ⟨rfl, ?_⟩)
  first | (intro acts; rw [hret _ acts rfl rfl rfl]) | rw [hret _ _ rfl rfl rfl]
  exact Steps.refl _
/-- what holds at the law's entry: the machine, the code, the tables' words (any of lw_tbl by 'hts w (by decide +kernel)'), the script of L ints xs at the cell b, what the Statement gives of the start (any of its parts by flat_of_before) -/
def lw_At (p : Program) (s : State) (m : MethodId) (meth : Method) (c : Code) (b L : Nat) (xs : Nat → Int32) : Prop :=
  p.tables.exec = Jvm.exec ∧ c.code = code ∧ meth.sig.returnType = ret ∧ c.maxLocals = 4 ∧ s.vm.findClass R_law = some m.cls ∧ (∀ w ∈ lw_tbl, w.before #[Value.ref b] s = true) ∧ va_X b L xs s s.heap ∧ b < s.heap.size ∧ meth.locks = false ∧ (Jvm.Cond.and given_1 narrow_1).before #[Value.ref b] s = true
/-! ===== what is known at the law's entry ===== -/
theorem e_cls {s : State} {args : Array Value} (hts : ∀ w ∈ lw_tbl, w.before args s = true) : ∃ D : va_G, ∀ (c : Nat) (q : vw_C), q_cl[c]? = some q → u_Kn s q.1 q.2.1 q.2.2 (D.1 c) (D.2 c) := by
  have hi0 : (List.range 10).all (fun ci => q_in (.instantiable (q_os ci) (q_nf ci))) = true := by decide +kernel
  have h : ∀ ci : Nat, ∃ x : ClassId × (Nat → Nat), ci < 10 → u_Kn s (q_os ci) (q_T ci) (q_nf ci) x.1 x.2 := by
    intro ci
    by_cases hc : ci < 10
    · obtain ⟨cC, iS, hk⟩ := u_known (C := q_os ci) (T := q_T ci) (N := q_nf ci) (n := q_nf ci) hts (fun w hw => (List.mem_filter.mp (q_lay hc w hw)).1) (hts _ (List.mem_filter.mp (q_in_TB (List.all_eq_true.mp hi0 ci (List.mem_range.mpr hc)))).1)
      exact ⟨(cC, iS), fun _ => hk⟩
    · exact ⟨(0, fun _ => 0), fun h => absurd h hc⟩
  refine ⟨(fun ci => (Classical.choose (h ci)).1, fun ci => (Classical.choose (h ci)).2), fun c q hq => ?_⟩
  have hc : c < 10 := (List.getElem?_eq_some_iff.mp hq).1
  rw [q_clk c hc] at hq
  cases hq
  exact Classical.choose_spec (h c) hc
theorem e_arr {s : State} {args : Array Value} (hts : ∀ w ∈ lw_tbl, w.before args s = true) : ∃ dA : Nat → ClassId, ∀ t, t < 7 → ArrOfT s (dA t) (q_ety t) ∧ va_RA s (dA t) (q_ety t) := by
  have ho : (Cond.arrayOver (.object "SlateQuarry$Wall") ∈ lw_tbl ∧ Cond.arrayOver (.object "SlateQuarry$Gang") ∈ lw_tbl) ∧ Cond.arrayOver (.object "SlateQuarry$Sheet") ∈ lw_tbl := ⟨⟨by decide +kernel, by decide +kernel⟩, by decide +kernel⟩
  have hm : ∀ {w : Cond}, q_in w = true → w.before args s = true := fun h => hts _ (List.mem_filter.mp (q_in_TB h)).1
  have prim : ∀ ty : FieldType, (Cond.arrayClass ty).before args s = true → (∀ C, ty ≠ .object C) → ∃ c : ClassId, ArrOfT s c ty ∧ va_RA s c ty := by
    intro ty h hne
    obtain ⟨c, k, comp, h1, h2, h3⟩ := Cond.arrayClass_spec (args := args) (first := s) (o := none) (s := s) (idx := []) h
    refine ⟨c, fun n z => ⟨fun k h => (by cases h), k, h2, comp, h3⟩, ?_⟩
    cases ty <;> first | exact h1 | exact absurd rfl (hne _)
  have obj : ∀ C : String, (Cond.arrayOver (.object C)).before args s = true → ∃ c : ClassId, ArrOfT s c (.object C) ∧ va_RA s c (.object C) := by
    intro C h
    obtain ⟨comp, c, k, f1, -, f2, f3, f4⟩ := Cond.arrayOver_spec (args := args) (first := s) (o := none) (s := s) (idx := []) h
    exact ⟨c, fun n z => ⟨fun k h => (by cases h), k, f2, comp, f3⟩, k, comp, f2, f3, f1, f4⟩
  obtain ⟨c0, h0⟩ := prim .int (hm q_ac0.1) (fun C e => by cases e)
  obtain ⟨c1, h1⟩ := prim .boolean (hm q_ac0.2.1) (fun C e => by cases e)
  obtain ⟨c2, h2⟩ := prim .byte (hm q_ac0.2.2.1) (fun C e => by cases e)
  obtain ⟨c3, h3⟩ := prim .long (hm q_ac0.2.2.2) (fun C e => by cases e)
  obtain ⟨c4, h4⟩ := obj "SlateQuarry$Wall" (hts _ ho.1.1)
  obtain ⟨c5, h5⟩ := obj "SlateQuarry$Gang" (hts _ ho.1.2)
  obtain ⟨c6, h6⟩ := obj "SlateQuarry$Sheet" (hts _ ho.2)
  refine ⟨fun t => [c0, c1, c2, c3, c4, c5, c6].getD t c0, fun t ht => ?_⟩
  rcases (show t = 0 ∨ t = 1 ∨ t = 2 ∨ t = 3 ∨ t = 4 ∨ t = 5 ∨ t = 6 by omega) with rfl | rfl | rfl | rfl | rfl | rfl | rfl
  · exact h0
  · exact h1
  · exact h2
  · exact h3
  · exact h4
  · exact h5
  · exact h6
theorem e_tab {s : State} {args : Array Value} (hts : ∀ w ∈ lw_tbl, w.before args s = true) (hgv : (Jvm.Cond.and given_1 narrow_1).before args s = true) {C n : String} {N : Nat} {f : List Int32} {A : Nat → Prop} (hN : N < 2 ^ 31) (hl : Cond.laysStatic C n "[I" ∈ lw_tbl) (hini : Cond.initialized C ∈ lw_tbl) (harr : (Cond.arrayOf (.static C n "[I") .int).before args s = true) (hlen : (Cond.eq (.length (.static C n "[I")) (.int (Int32.ofNat N))).before args s = true) (hel : ∀ j : Nat, j < N → (Cond.eq (.elem (.static C n "[I") (.int (Int32.ofNat j))) (.int (f.getD j 0))).before args s = true) (hA : ∀ a : Nat, a < s.heap.size → ¬ A a) : ∃ t : Nat, va_Z C n "[I" (.ref t) A s s.heap ∧ va_T .int t N (fun j => .int (f.getD j 0)) A s s.heap := by
  obtain ⟨t, ht, hT⟩ := va_Tof (f := fun j => .int (f.getD j 0)) (A := A) hN harr (va_eqt hlen) (fun j hj => va_eqt (hel j hj)) hA
  exact ⟨t, va_Zof (hts _ hl) (hts _ hini) ht hA, hT⟩
theorem e_F {s : State} {args : Array Value} (hts : ∀ w ∈ lw_tbl, w.before args s = true) (hgv : (Jvm.Cond.and given_1 narrow_1).before args s = true) (b : Nat) : ∃ (D : va_G) (dA : Nat → ClassId) (kv : Nat → Value), q_F D dA kv s.heap.size s ∧ kv 14 = .ref b := by
  obtain ⟨D, hD⟩ := e_cls hts
  obtain ⟨dA, hA7⟩ := e_arr hts
  have hs := flat_of_before _ hgv
  have hA : ∀ a : Nat, a < s.heap.size → ¬ q_A s.heap.size a := fun a h1 h2 => absurd h1 (Nat.not_lt.mpr h2)
  obtain ⟨t0, zt0, tt0⟩ : ∃ t : Nat, va_Z "SlateQuarry$LawBook" "UNTOLD" "[I" (.ref t) (q_A s.heap.size) s s.heap ∧ va_T .int t 4 (fun j => .int ([(-4 : Int32), -4, 0, 0].getD j 0)) (q_A s.heap.size) s s.heap := by
    refine e_tab hts hgv (by decide) (by decide +kernel) (by decide +kernel) (hs _ (by decide +kernel)) (hs _ (by decide +kernel)) (fun j hj => ?_) hA
    rcases (show j = 0 ∨ j = 1 ∨ j = 2 ∨ j = 3 by omega) with rfl | rfl | rfl | rfl <;> exact hs _ (by decide +kernel)
  obtain ⟨t1, zt1, tt1⟩ : ∃ t : Nat, va_Z "SlateQuarry$LawBook" "LEAST" "[I" (.ref t) (q_A s.heap.size) s s.heap ∧ va_T .int t 5 (fun j => .int ([(0 : Int32), 1, 0, 0, 0].getD j 0)) (q_A s.heap.size) s s.heap := by
    refine e_tab hts hgv (by decide) (by decide +kernel) (by decide +kernel) (hs _ (by decide +kernel)) (hs _ (by decide +kernel)) (fun j hj => ?_) hA
    rcases (show j = 0 ∨ j = 1 ∨ j = 2 ∨ j = 3 ∨ j = 4 by omega) with rfl | rfl | rfl | rfl | rfl <;> exact hs _ (by decide +kernel)
  obtain ⟨t2, zt2, tt2⟩ : ∃ t : Nat, va_Z "SlateQuarry$LawBook" "GREATEST" "[I" (.ref t) (q_A s.heap.size) s s.heap ∧ va_T .int t 5 (fun j => .int ([(9999 : Int32), 20, 999, 100, 9].getD j 0)) (q_A s.heap.size) s s.heap := by
    refine e_tab hts hgv (by decide) (by decide +kernel) (by decide +kernel) (hs _ (by decide +kernel)) (hs _ (by decide +kernel)) (fun j hj => ?_) hA
    rcases (show j = 0 ∨ j = 1 ∨ j = 2 ∨ j = 3 ∨ j = 4 by omega) with rfl | rfl | rfl | rfl | rfl <;> exact hs _ (by decide +kernel)
  have zc : va_Z "java/lang/String" "COMPACT_STRINGS" "Z" (.int 1) (q_A s.heap.size) s s.heap := va_Zof (hts _ (by decide +kernel)) (hts _ (by decide +kernel)) (va_eqt (hs _ (by decide +kernel))) hA
  have zf : va_Zq "jdk/internal/util/Preconditions" "SIOOBE_FORMATTER" "Ljava/util/function/BiFunction;" (q_A s.heap.size) s s.heap := va_Zqof (hts _ (by decide +kernel)) (hts _ (by decide +kernel)) (hs _ (by decide +kernel)) hA
  obtain ⟨fv, hfv, zfv⟩ : ∃ v : Value, (v = .null ∨ ∃ a, v = .ref a) ∧ va_Z "jdk/internal/util/Preconditions" "SIOOBE_FORMATTER" "Ljava/util/function/BiFunction;" v (q_A s.heap.size) s s.heap := by
    rcases zf with h | ⟨t, h⟩
    · exact ⟨.null, Or.inl rfl, h⟩
    · exact ⟨.ref t, Or.inr ⟨t, rfl⟩, h⟩
  obtain ⟨adK, adV, vS, vE⟩ := vk_Sof (args := args) (s := s) (N := 5) (tm := fun i => .string "SlateQuarry$LawBook" ([35, 37, 39, 41, 43].getD i 0)) (len := q_sln) (byt := q_sby) (A := q_A s.heap.size)
    (fun i hi => by rcases (show i = 0 ∨ i = 1 ∨ i = 2 ∨ i = 3 ∨ i = 4 by omega) with rfl | rfl | rfl | rfl | rfl <;> decide)
    (fun i hi => by rcases (show i = 0 ∨ i = 1 ∨ i = 2 ∨ i = 3 ∨ i = 4 by omega) with rfl | rfl | rfl | rfl | rfl <;> exact hs _ (by decide +kernel))
    (fun i hi => by rcases (show i = 0 ∨ i = 1 ∨ i = 2 ∨ i = 3 ∨ i = 4 by omega) with rfl | rfl | rfl | rfl | rfl <;> exact hs _ (by decide +kernel))
    (fun i hi => by rcases (show i = 0 ∨ i = 1 ∨ i = 2 ∨ i = 3 ∨ i = 4 by omega) with rfl | rfl | rfl | rfl | rfl <;> exact hs _ (by decide +kernel))
    (fun i hi => by rcases (show i = 0 ∨ i = 1 ∨ i = 2 ∨ i = 3 ∨ i = 4 by omega) with rfl | rfl | rfl | rfl | rfl <;> exact hs _ (by decide +kernel))
    (fun i hi j hj => by
      rcases (show i = 0 ∨ i = 1 ∨ i = 2 ∨ i = 3 ∨ i = 4 by omega) with rfl | rfl | rfl | rfl | rfl
      · have hj : j < 3 := hj
        rcases (show j = 0 ∨ j = 1 ∨ j = 2 by omega) with rfl | rfl | rfl <;> exact hs _ (by decide +kernel)
      · have hj : j < 4 := hj
        rcases (show j = 0 ∨ j = 1 ∨ j = 2 ∨ j = 3 by omega) with rfl | rfl | rfl | rfl <;> exact hs _ (by decide +kernel)
      · have hj : j < 4 := hj
        rcases (show j = 0 ∨ j = 1 ∨ j = 2 ∨ j = 3 by omega) with rfl | rfl | rfl | rfl <;> exact hs _ (by decide +kernel)
      · have hj : j < 4 := hj
        rcases (show j = 0 ∨ j = 1 ∨ j = 2 ∨ j = 3 by omega) with rfl | rfl | rfl | rfl <;> exact hs _ (by decide +kernel)
      · have hj : j < 5 := hj
        rcases (show j = 0 ∨ j = 1 ∨ j = 2 ∨ j = 3 ∨ j = 4 by omega) with rfl | rfl | rfl | rfl | rfl <;> exact hs _ (by decide +kernel)
    )
    (fun i j hi hj hne => by
      rcases (show i = 0 ∨ i = 1 ∨ i = 2 ∨ i = 3 ∨ i = 4 by omega) with rfl | rfl | rfl | rfl | rfl <;> rcases (show j = 0 ∨ j = 1 ∨ j = 2 ∨ j = 3 ∨ j = 4 by omega) with rfl | rfl | rfl | rfl | rfl <;> first | exact absurd rfl hne | exact Or.inl (hs _ (by decide +kernel)) | exact Or.inr (hs _ (by decide +kernel)))
    hA
  refine ⟨D, dA, fun k => [Value.ref t0, .ref t1, .ref t2, .ref (adK 0), .ref (adK 1), .ref (adK 2), .ref (adK 3), .ref (adK 4), .ref (adV 0), .ref (adV 1), .ref (adV 2), .ref (adV 3), .ref (adV 4), fv, .ref b].getD k .null, ⟨⟨hD, fun k q hq => ?_⟩, fun x hx => ?_, fun C hC => ?_, fun k => ?_, ?_⟩, rfl⟩
  · have hk : k < 7 := (List.getElem?_eq_some_iff.mp hq).1
    rw [q_tysk dA k hk] at hq
    cases hq
    exact hA7 k hk
  · have hm : ∀ x ∈ q_nl, q_nwd x ∈ lw_tbl := by decide +kernel
    exact va_Nw.of rfl (hts _ (hm x hx))
  · have hm : ∀ C ∈ q_ao, Cond.arrayOver (.object C) ∈ lw_tbl := by decide +kernel
    exact va_AO.of (hts _ (hm C hC))
  · match k with
    | 0 => exact Or.inr ⟨_, rfl⟩
    | 1 => exact Or.inr ⟨_, rfl⟩
    | 2 => exact Or.inr ⟨_, rfl⟩
    | 3 => exact Or.inr ⟨_, rfl⟩
    | 4 => exact Or.inr ⟨_, rfl⟩
    | 5 => exact Or.inr ⟨_, rfl⟩
    | 6 => exact Or.inr ⟨_, rfl⟩
    | 7 => exact Or.inr ⟨_, rfl⟩
    | 8 => exact Or.inr ⟨_, rfl⟩
    | 9 => exact Or.inr ⟨_, rfl⟩
    | 10 => exact Or.inr ⟨_, rfl⟩
    | 11 => exact Or.inr ⟨_, rfl⟩
    | 12 => exact Or.inr ⟨_, rfl⟩
    | 13 => exact hfv
    | 14 => exact Or.inr ⟨_, rfl⟩
    | k + 15 => exact Or.inl rfl
  · refine ⟨fun x hx => ?_, zc, zfv, adK, adV, vS, fun i hi => ?_, fun x hx => ?_⟩
    · rcases List.mem_cons.mp hx with rfl | hx
      · exact ⟨t0, rfl, zt0, tt0⟩
      · rcases List.mem_cons.mp hx with rfl | hx
        · exact ⟨t1, rfl, zt1, tt1⟩
        · rcases List.mem_cons.mp hx with rfl | hx
          · exact ⟨t2, rfl, zt2, tt2⟩
          · exact absurd hx List.not_mem_nil
    · rcases (show i = 0 ∨ i = 1 ∨ i = 2 ∨ i = 3 ∨ i = 4 by omega) with rfl | rfl | rfl | rfl | rfl <;> exact ⟨rfl, rfl⟩
    · rcases List.mem_cons.mp hx with rfl | hx
      · exact vk_R.of (hts _ (by decide +kernel)) (vE 0 (by decide))
      · rcases List.mem_cons.mp hx with rfl | hx
        · exact vk_R.of (hts _ (by decide +kernel)) (vE 1 (by decide))
        · rcases List.mem_cons.mp hx with rfl | hx
          · exact vk_R.of (hts _ (by decide +kernel)) (vE 2 (by decide))
          · rcases List.mem_cons.mp hx with rfl | hx
            · exact vk_R.of (hts _ (by decide +kernel)) (vE 3 (by decide))
            · rcases List.mem_cons.mp hx with rfl | hx
              · exact vk_R.of (hts _ (by decide +kernel)) (vE 4 (by decide))
              · exact absurd hx List.not_mem_nil
