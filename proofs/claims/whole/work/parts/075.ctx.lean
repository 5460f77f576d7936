/-! what the worlds' states know -/
def q_A (N0 : Nat) : Nat → Prop := fun q => N0 ≤ q
def q_tys (dA : Nat → ClassId) : List (ClassId × FieldType) := [(dA 0, q_ety 0), (dA 1, q_ety 1), (dA 2, q_ety 2), (dA 3, q_ety 3), (dA 4, q_ety 4), (dA 5, q_ety 5), (dA 6, q_ety 6)]
theorem q_tysk (dA : Nat → ClassId) : ∀ t, t < 7 → (q_tys dA)[t]? = some (dA t, q_ety t)
  | 0, _ => rfl | 1, _ => rfl | 2, _ => rfl | 3, _ => rfl | 4, _ => rfl | 5, _ => rfl | 6, _ => rfl
  | n + 7, h => absurd h (by omega)
def q_ka : List (Nat × String × Nat × List Int32) := [(0, "UNTOLD", 4, [-4, -4, 0, 0]), (1, "LEAST", 5, [0, 1, 0, 0, 0]), (2, "GREATEST", 5, [9999, 20, 999, 100, 9])]
def q_ks : List (Nat × Nat × String) := [(0, 35, "top"), (1, 37, "hang"), (2, 39, "tool"), (3, 41, "club"), (4, 43, "pound")]
def q_sln : List Nat := [3, 4, 4, 4, 5]
def q_sby : List (List Int32) := [[116, 111, 112], [104, 97, 110, 103], [116, 111, 111, 108], [99, 108, 117, 98], [112, 111, 117, 110, 100]]
def q_KF (kv : Nat → Value) (A : Nat → Prop) (U : State) (H : Heap) : Prop :=
  (∀ x ∈ q_ka, ∃ t : Nat, kv x.1 = .ref t ∧ va_Z "SlateQuarry$LawBook" x.2.1 "[I" (.ref t) A U H ∧ va_T .int t x.2.2.1 (fun j => .int (x.2.2.2.getD j 0)) A U H) ∧
  va_Z "java/lang/String" "COMPACT_STRINGS" "Z" (.int 1) A U H ∧
  va_Z "jdk/internal/util/Preconditions" "SIOOBE_FORMATTER" "Ljava/util/function/BiFunction;" (kv 13) A U H ∧
  ∃ adK adV : Nat → Nat, vk_S 5 q_sln q_sby adK adV A U H ∧ (∀ i, i < 5 → kv (3 + i) = .ref (adK i) ∧ kv (8 + i) = .ref (adV i)) ∧ ∀ x ∈ q_ks, vk_R "SlateQuarry$LawBook" x.2.1 x.2.2 (adK x.1) U
def q_ao : List String := ["SlateQuarry$Wall", "SlateQuarry$Gang", "SlateQuarry$Sheet"]
def q_F (D : va_G) (dA : Nat → ClassId) (kv : Nat → Value) (N0 : Nat) (U : State) : Prop :=
  va_K D q_cl (q_tys dA) U ∧ (∀ x ∈ q_nl, va_Nw (q_nwd x) U) ∧ (∀ C ∈ q_ao, va_AO C U) ∧ (∀ k, kv k = .null ∨ ∃ a, kv k = .ref a) ∧ q_KF kv (q_A N0) U U.heap
theorem q_KF_to {kv : Nat → Value} {A : Nat → Prop} {s U : State} {H H1 : Heap} (hvm : s.vm.Alike U.vm) (hR : ∀ (x : Nat × Nat × String) (a : Nat), vk_R "SlateQuarry$LawBook" x.2.1 x.2.2 a s → vk_R "SlateQuarry$LawBook" x.2.1 x.2.2 a U) (hq : ∀ a : Nat, a < H.size → ¬ A a → H1[a]? = H[a]?) (h : q_KF kv A s H) : q_KF kv A U H1 := by
  obtain ⟨h1, h2, h3, adK, adV, h4, h5, h6⟩ := h
  refine ⟨fun x hx => ?_, (h2.moved hvm).kept hq, (h3.moved hvm).kept hq, adK, adV, (h4.moved hvm).kept hq, h5, fun x hx => hR x _ (h6 x hx)⟩
  obtain ⟨t, g1, g2, g3⟩ := h1 x hx
  exact ⟨t, g1, (g2.moved hvm).kept hq, (g3.moved hvm).kept hq⟩
theorem q_F_same {D : va_G} {dA : Nat → ClassId} {kv : Nat → Value} {N0 : Nat} {s U : State} (hv : U.vm = s.vm) (hh : U.heap = s.heap) (h : q_F D dA kv N0 s) : q_F D dA kv N0 U := by
  obtain ⟨h1, h2, h3, h4, h5⟩ := h
  have hvm : s.vm.Alike U.vm := by rw [hv]; exact Vm.Alike.refl _
  refine ⟨h1.moved hvm, fun x hx => (h2 x hx).same rfl hv.symm, fun C hC => (h3 C hC).moved hvm, h4, ?_⟩
  rw [hh]
  exact q_KF_to hvm (fun x a h => h.same hv) (fun _ _ _ => rfl) h5
theorem q_F_warm {D : va_G} {dA : Nat → ClassId} {kv : Nat → Value} {N0 : Nat} {s U : State} (hW : s.WarmedH U.vm) (hq : ∀ a : Nat, a < s.heap.size → ¬ q_A N0 a → U.heap[a]? = s.heap[a]?) (h : q_F D dA kv N0 s) : q_F D dA kv N0 U := by
  obtain ⟨h1, h2, h3, h4, h5⟩ := h
  have hvm : s.vm.Alike U.vm := hW.alike
  exact ⟨h1.moved hvm, fun x hx => va_Nw.warmM hW (h2 x hx), fun C hC => (h3 C hC).moved hvm, h4, q_KF_to hvm (fun x a h => h.warm hW) hq h5⟩
theorem q_cv_cat {N0 : Nat} {kv : Nat → Value} (h : ∀ k, kv k = .null ∨ ∃ a, kv k = .ref a) (v : Value) : (q_cv N0 kv v).category = v.category := by
  cases v with
  | float k =>
    show (kv k.toNat).category = 1
    rcases h k.toNat with h | ⟨a, h⟩ <;> rw [h] <;> rfl
  | _ => rfl
/-! rooms -/
def q_sz (i : Nat) : Nat := match q_SH i with
  | some (.inl ci) => q_nf ci
  | some (.inr x) => x.2
  | none => 0
def q_sl : Nat → Nat
  | 0 => 0
  | n + 1 => q_sl n + q_sz n
theorem q_sl_mono {a b : Nat} (h : a ≤ b) : q_sl a ≤ q_sl b := by
  induction b with
  | zero => rw [show a = 0 by omega]; exact Nat.le_refl _
  | succ b ih =>
    by_cases e : a = b + 1
    · rw [e]; exact Nat.le_refl _
    · exact Nat.le_trans (ih (by omega)) (Nat.le_add_right _ _)
def q_Rm (d c s : Nat) : Room := { frames := d, cells := c, slots := s, locals := 36 * d }
def q_ws (y : Nat) : List Cond := q_cd y :: qTB
theorem q_goodTB {w : Cond} (h : w ∈ qTB) : w ∈ lw_tbl ∧ ((w.onTables && w.keeps) = true ∨ ∃ ty, w = .arrayClass ty) := ⟨(List.mem_filter.mp h).1, good_of_word (List.mem_filter.mp h).2⟩
/-- the words of a method, among any that hold the tables' -/
theorem q_good {big : List Cond} (hb : ∀ w ∈ qTB, w ∈ big) {y : Nat} (hy : y < 161) : GoodIn big (q_ws y) := by
  intro w hw
  have h : w ∈ qTB := by
    rcases List.mem_cons.mp hw with h | h
    · rw [h]; exact (q_mt1 hy).1
    · exact h
  exact ⟨hb w h, (q_goodTB h).2⟩
/-! the judgement: from a configuration on, the method comes to its end with r and M' -/
def q_ri : Option FieldType → Instr
  | none => .return_
  | some .long => .lreturn
  | some (.object _) => .areturn
  | some (.array _) => .areturn
  | some _ => .ireturn
def q_X (D : va_G) (dA : Nat → ClassId) (kv : Nat → Value) (N0 y : Nat) (p : Program) (s : State) (m : MethodId) (args : Array Value) (meth : Method) (co : Code) : Prop :=
  p.tables.exec = Jvm.exec ∧ co.code = q_cb y ∧ co.maxLocals = q_ml y ∧ s.vm.findClass (q_os (q_on y)) = some m.cls ∧ (∀ w ∈ qTB, w.before args s = true) ∧ meth.name = (q_yn y).name ∧ q_F D dA kv N0 s ∧ N0 ≤ s.heap.size
def q_HR (r : Option Value) (M' : qM) (l : Launch) (D : va_G) (dA : Nat → ClassId) (kv : Nat → Value) (N0 n0 y : Nat) (p : Program) (e : Env) (s : State) (m : MethodId) (args : Array Value) (below : List Frame) (meth : Method) (co : Code) (R : Room) (Q : State → Prop) : Prop :=
  ∀ (pc : Nat) (H : Heap) (locs : List Loc) (ls : Array Slot), decode (q_cb y) pc = .ok (q_ri (q_rt y), 1) → q_W D dA N0 M' H → va_S (q_A N0) s.heap H locs → W p l e R s m args below meth co H locs (q_n M' - n0) (q_sl (q_n M') - q_sl n0) Q (F0 m pc ls (r.map (q_cv N0 kv)).toList)
def q_B (d y : Nat) (r : Option Value) (M' : qM) (l : Launch) (D : va_G) (dA : Nat → ClassId) (kv : Nat → Value) (N0 n0 : Nat) (p : Program) (e : Env) (s : State) (m : MethodId) (args : Array Value) (below : List Frame) (meth : Method) (co : Code) (R : Room) (Q : State → Prop) : Prop :=
  q_X D dA kv N0 y p s m args meth co ∧ (d ≤ R.frames ∧ 36 * d ≤ R.locals) ∧ (q_n M' - n0 ≤ R.cells ∧ q_sl (q_n M') - q_sl n0 ≤ R.slots) ∧ q_HR r M' l D dA kv N0 n0 y p e s m args below meth co R Q
def G (d y : Nat) (c : qC) (r : Option Value) (M' : qM) : Prop :=
  ∀ (l : Launch) (D : va_G) (dA : Nat → ClassId) (kv : Nat → Value) (N0 n0 : Nat) (p : Program) (e : Env) (s : State) (m : MethodId) (args : Array Value) (below : List Frame) (meth : Method) (co : Code) (R : Room) (Q : State → Prop),
    q_B d y r M' l D dA kv N0 n0 p e s m args below meth co R Q → n0 ≤ q_n c.2.2.2 →
    ∀ (H : Heap) (locs : List Loc) (ls : Array Slot), q_L (q_cv N0 kv) (q_ml y) ls c.2.1 → q_W D dA N0 c.2.2.2 H → va_S (q_A N0) s.heap H locs →
      W p l e R s m args below meth co H locs (q_n c.2.2.2 - n0) (q_sl (q_n c.2.2.2) - q_sl n0) Q (F0 m c.1 ls (c.2.2.1.map (q_cv N0 kv)))
/-- a method's contract -/
def q_Q (D : va_G) (dA : Nat → ClassId) (kv : Nat → Value) (N0 : Nat) (r : Option Value) (M' : qM) : Array Value → State → Outcome → State → Prop := fun _ st o t => o = .returned (r.map (q_cv N0 kv)) ∧ q_W D dA N0 M' t.heap ∧ va_F (q_A N0) st t
def q_P (D : va_G) (dA : Nat → ClassId) (kv : Nat → Value) (N0 : Nat) (M : qM) (U : State) : Prop := q_F D dA kv N0 U ∧ q_W D dA N0 M U.heap
def GM (d y : Nat) (av : List Value) (M : qM) (r : Option Value) (M' : qM) : Prop :=
  y < 161 ∧ q_n M ≤ q_n M' ∧ ∀ (l : Launch) (D : va_G) (dA : Nat → ClassId) (kv : Nat → Value) (N0 : Nat), Met l (q_yn y) (q_ws y) (q_Rm d (q_n M' - q_n M) (q_sl (q_n M') - q_sl (q_n M))) (va_Pc (av.map (q_cv N0 kv)) (q_P D dA kv N0 M)) (q_Q D dA kv N0 r M') (q_n M' - q_n M) (q_sl (q_n M') - q_sl (q_n M)) (q_A N0)
