/-! ===== the abstract machine: memory, values, world ===== -/
abbrev qM : Type := (Nat × (Nat → Nat → Option Nat)) × ((Nat → Nat → Int32) × (Nat → Nat → Int64))
def q_n (M : qM) : Nat := M.1.1
def q_r (M : qM) (i k : Nat) : Option Nat := M.1.2 i k
def q_i (M : qM) (i k : Nat) : Int32 := M.2.1 i k
def q_l (M : qM) (i k : Nat) : Int64 := M.2.2 i k
def q_u {α : Type} (f : Nat → Nat → α) (i k : Nat) (x : α) : Nat → Nat → α := fun a b => if a = i ∧ b = k then x else f a b
def q_z {α : Type} (f : Nat → Nat → α) (i : Nat) (x : α) : Nat → Nat → α := fun a b => if a = i then x else f a b
def q_wi (M : qM) (i k : Nat) (x : Int32) : qM := (M.1, (q_u M.2.1 i k x, M.2.2))
def q_wl (M : qM) (i k : Nat) (x : Int64) : qM := (M.1, (M.2.1, q_u M.2.2 i k x))
def q_wr (M : qM) (i k : Nat) (x : Option Nat) : qM := ((M.1.1, q_u M.1.2 i k x), M.2)
/-- one more cell: its row is blank -/
def q_al (M : qM) : qM := ((M.1.1 + 1, q_z M.1.2 M.1.1 none), (q_z M.2.1 M.1.1 0, q_z M.2.2 M.1.1 0))
abbrev qC : Type := Nat × List (Option Value) × List Value × qM
def q_cv (N0 : Nat) (kv : Nat → Value) : Value → Value
  | .ref i => .ref (N0 + i)
  | .float k => kv k.toNat
  | v => v
def q_kd : FieldType → Nat
  | .long => 1
  | .object _ => 2
  | .array _ => 2
  | _ => 0
/-- what a slot of a type holds: abstract, and in the machine -/
def q_av (M : qM) (i : Nat) (ty : FieldType) (k : Nat) : Value := match q_kd ty with
  | 0 => .int (q_i M i k)
  | 1 => .long (q_l M i k)
  | _ => va_rf (q_r M i k)
def q_fv (N0 : Nat) (M : qM) (i : Nat) (ty : FieldType) (k : Nat) : Value := match q_kd ty with
  | 0 => .int (q_i M i k)
  | 1 => .long (q_l M i k)
  | _ => va_rf ((q_r M i k).map (N0 + ·))
theorem q_cv_av (N0 : Nat) (kv : Nat → Value) (M : qM) (i : Nat) (ty : FieldType) (k : Nat) : q_cv N0 kv (q_av M i ty k) = q_fv N0 M i ty k := by
  unfold q_av q_fv
  split
  · rfl
  · rfl
  · cases q_r M i k <;> rfl
/-- a write of one slot: a value of the slot's kind -/
def q_w (M : qM) (i : Nat) (ty : FieldType) (k : Nat) (v : Value) : Option qM := match q_kd ty, v with
  | 0, .int x => some (q_wi M i k x)
  | 1, .long x => some (q_wl M i k x)
  | 2, .ref j => some (q_wr M i k (some j))
  | 2, .null => some (q_wr M i k none)
  | _, _ => none
theorem q_w_n {M M1 : qM} {i k : Nat} {ty : FieldType} {v : Value} (h : q_w M i ty k v = some M1) : q_n M1 = q_n M := by
  unfold q_w at h
  split at h <;> first | (cases h; rfl) | cases h
theorem q_w_other {N0 : Nat} {M M1 : qM} {i k : Nat} {ty : FieldType} {v : Value} (h : q_w M i ty k v = some M1) {j : Nat} (hj : j ≠ i) (ty2 : FieldType) : q_fv N0 M1 j ty2 = q_fv N0 M j ty2 := by
  funext b
  unfold q_w at h
  unfold q_fv
  split at h <;> first | (cases h; done) | (cases h; split <;> simp [q_i, q_l, q_r, q_wi, q_wl, q_wr, q_u, hj])
theorem q_w_self {N0 : Nat} {kv : Nat → Value} {M M1 : qM} {i k : Nat} {ty : FieldType} {v : Value} (h : q_w M i ty k v = some M1) : q_fv N0 M1 i ty k = q_cv N0 kv v := by
  unfold q_w at h
  unfold q_fv
  split at h
  · rename_i hk; cases h; rw [hk]; simp [q_i, q_wi, q_u, q_cv]
  · rename_i hk; cases h; rw [hk]; simp [q_l, q_wl, q_u, q_cv]
  · rename_i hk; cases h; rw [hk]; simp [q_r, q_wr, q_u, q_cv, va_rf]
  · rename_i hk; cases h; rw [hk]; simp [q_r, q_wr, q_u, q_cv, va_rf]
  · cases h
theorem q_w_same {N0 : Nat} {M M1 : qM} {i k : Nat} {ty : FieldType} {v : Value} (h : q_w M i ty k v = some M1) {b : Nat} (hb : b ≠ k) (ty2 : FieldType) : q_fv N0 M1 i ty2 b = q_fv N0 M i ty2 b := by
  unfold q_w at h
  unfold q_fv
  split at h <;> first | (cases h; done) | (cases h; split <;> simp [q_i, q_l, q_r, q_wi, q_wl, q_wr, q_u, hb])
/-- the cell at place i -/
def q_at (D : va_G) (dA : Nat → ClassId) (N0 : Nat) (M : qM) (i : Nat) (H : Heap) : Prop := match q_SH i with
  | some (.inl ci) => t_OB (N0 + i) (D.1 ci) (q_nf ci) (D.2 ci) H (fun k => q_fv N0 M i (q_fty ci k) k)
  | some (.inr x) => H[N0 + i]? = some (arrV (dA x.1) x.2 (q_fv N0 M i (q_ety x.1)))
  | none => False
def q_W (D : va_G) (dA : Nat → ClassId) (N0 : Nat) (M : qM) (H : Heap) : Prop := H.size = N0 + q_n M ∧ ∀ i : Nat, i < q_n M → q_at D dA N0 M i H
theorem q_at_obj {D : va_G} {dA : Nat → ClassId} {N0 : Nat} {M : qM} {i ci : Nat} {H : Heap} (h : q_at D dA N0 M i H) (hs : q_SH i = some (.inl ci)) : t_OB (N0 + i) (D.1 ci) (q_nf ci) (D.2 ci) H (fun k => q_fv N0 M i (q_fty ci k) k) := by
  unfold q_at at h; rw [hs] at h; exact h
theorem q_at_arr {D : va_G} {dA : Nat → ClassId} {N0 : Nat} {M : qM} {i t n : Nat} {H : Heap} (h : q_at D dA N0 M i H) (hs : q_SH i = some (.inr (t, n))) : H[N0 + i]? = some (arrV (dA t) n (q_fv N0 M i (q_ety t))) := by
  unfold q_at at h; rw [hs] at h; exact h
theorem q_at_keep {D : va_G} {dA : Nat → ClassId} {N0 : Nat} {M M1 : qM} {i : Nat} {H H1 : Heap} (h : q_at D dA N0 M i H) (hq : H1[N0 + i]? = H[N0 + i]?) (hf : ∀ ty : FieldType, q_fv N0 M1 i ty = q_fv N0 M i ty) : q_at D dA N0 M1 i H1 := by
  unfold q_at at h ⊢
  split
  · rename_i ci hs
    rw [hs] at h
    have h : t_OB (N0 + i) (D.1 ci) (q_nf ci) (D.2 ci) H (fun k => q_fv N0 M i (q_fty ci k) k) := h
    have e : (fun k => q_fv N0 M1 i (q_fty ci k) k) = (fun k => q_fv N0 M i (q_fty ci k) k) := funext fun k => congrFun (hf _) k
    rw [e]
    exact h.kept hq
  · rename_i x hs
    rw [hs] at h
    have h : H[N0 + i]? = some (arrV (dA x.1) x.2 (q_fv N0 M i (q_ety x.1))) := h
    rw [hq, hf]
    exact h
  · rename_i hs
    rw [hs] at h
    exact h
/-- behind a write of one slot of the cell at i -/
theorem q_W_put {D : va_G} {dA : Nat → ClassId} {N0 : Nat} {M M1 : qM} {i k : Nat} {ty : FieldType} {v : Value} {H H1 : Heap} (hW : q_W D dA N0 M H) (h : q_w M i ty k v = some M1) (z : H1.size = H.size) (oq : ∀ q : Nat, q ≠ N0 + i → H1[q]? = H[q]?) (hi : q_at D dA N0 M1 i H1) : q_W D dA N0 M1 H1 := by
  refine ⟨by rw [z, q_w_n h]; exact hW.1, fun j hj => ?_⟩
  rw [q_w_n h] at hj
  by_cases e : j = i
  · subst e; exact hi
  · exact q_at_keep (hW.2 j hj) (oq _ (by omega)) (fun ty2 => q_w_other h e ty2)
/-- behind one new cell -/
theorem q_W_new {D : va_G} {dA : Nat → ClassId} {N0 : Nat} {M : qM} {H H1 : Heap} (hW : q_W D dA N0 M H) (z : H1.size = H.size + 1) (oq : ∀ q : Nat, q < H.size → H1[q]? = H[q]?) (hi : q_at D dA N0 (q_al M) (q_n M) H1) : q_W D dA N0 (q_al M) H1 := by
  refine ⟨by rw [z, hW.1]; rfl, fun j hj => ?_⟩
  have hj : j < q_n M + 1 := hj
  by_cases e : j = q_n M
  · subst e; exact hi
  · refine q_at_keep (hW.2 j (by omega)) (oq _ (by rw [hW.1]; omega)) (fun ty => ?_)
    have e' : ¬ j = M.1.1 := e
    funext b
    unfold q_fv
    simp [q_i, q_l, q_r, q_al, q_z, e']
theorem q_fv_new (N0 : Nat) (M : qM) (ty : FieldType) (k : Nat) : q_fv N0 (q_al M) (q_n M) ty k = match q_kd ty with | 0 => .int 0 | 1 => .long 0 | _ => .null := by
  unfold q_fv
  split <;> simp [q_i, q_l, q_r, q_al, q_z, q_n, va_rf]
/-- locals: what the listed places hold -/
def q_as (cv : Value → Value) : Nat → List (Option Value) → List (Nat × Value)
  | _, [] => []
  | i, none :: t => q_as cv (i + 1) t
  | i, some v :: t => (i, cv v) :: q_as cv (i + 1) t
theorem q_as_iff (cv : Value → Value) : ∀ (ll : List (Option Value)) (i j : Nat) (w : Value), (j, w) ∈ q_as cv i ll ↔ ∃ v, i ≤ j ∧ ll[j - i]? = some (some v) ∧ w = cv v
  | [], i, j, w => by simp [q_as]
  | o :: t, i, j, w => by
    have ih := q_as_iff cv t (i + 1) j w
    have key : (∃ v, i + 1 ≤ j ∧ t[j - (i + 1)]? = some (some v) ∧ w = cv v) ↔ ∃ v, i < j ∧ (o :: t)[j - i]? = some (some v) ∧ w = cv v := by
      constructor
      · rintro ⟨v, h1, h2, h3⟩
        refine ⟨v, h1, ?_, h3⟩
        rw [show j - i = (j - (i + 1)) + 1 by omega, List.getElem?_cons_succ]; exact h2
      · rintro ⟨v, h1, h2, h3⟩
        refine ⟨v, h1, ?_, h3⟩
        rw [show j - i = (j - (i + 1)) + 1 by omega, List.getElem?_cons_succ] at h2; exact h2
    rw [key] at ih
    cases o with
    | none =>
      show (j, w) ∈ q_as cv (i + 1) t ↔ _
      rw [ih]
      constructor
      · rintro ⟨v, h1, h2⟩; exact ⟨v, by omega, h2⟩
      · rintro ⟨v, h1, h2, h3⟩
        refine ⟨v, ?_, h2, h3⟩
        rcases Nat.lt_or_ge i j with q | q
        · exact q
        · rw [show j - i = 0 by omega] at h2; simp at h2
    | some v0 =>
      show (j, w) ∈ (i, cv v0) :: q_as cv (i + 1) t ↔ _
      rw [List.mem_cons, ih]
      constructor
      · rintro (h | ⟨v, h1, h2⟩)
        · cases h; exact ⟨v0, Nat.le_refl _, by simp, rfl⟩
        · exact ⟨v, by omega, h2⟩
      · rintro ⟨v, h1, h2, h3⟩
        rcases Nat.lt_or_ge i j with q | q
        · exact Or.inr ⟨v, q, h2, h3⟩
        · have e : j = i := by omega
          subst e
          simp at h2
          subst h2
          exact Or.inl (by rw [h3])
def q_L (cv : Value → Value) (nL : Nat) (ls : Array Slot) (ll : List (Option Value)) : Prop := ll.length = nL ∧ lv_has ls nL (q_as cv 0 ll)
theorem q_L_at {cv : Value → Value} {nL : Nat} {ls : Array Slot} {ll : List (Option Value)} (h : q_L cv nL ls ll) {i : Nat} {v : Value} (hi : ll[i]? = some (some v)) : ls[i]? = some (.val (cv v)) :=
  h.2.2.2 (i, cv v) ((q_as_iff cv ll 0 i (cv v)).mpr ⟨v, Nat.zero_le _, by simpa using hi, rfl⟩)
/-- a slot that loses its value when the next one is written -/
def q_k2 : Option Value → Option Value
  | some (.long _) => none
  | some (.double _) => none
  | o => o
def q_s1 : List (Option Value) → Nat → Value → List (Option Value)
  | [], _, _ => []
  | _ :: t, 0, v => some v :: t
  | o :: t, 1, v => q_k2 o :: q_s1 t 0 v
  | o :: t, i + 2, v => o :: q_s1 t (i + 1) v
def q_nx : List (Option Value) → List (Option Value)
  | [] => []
  | _ :: t => none :: t
def q_s2 : List (Option Value) → Nat → Value → List (Option Value)
  | [], _, _ => []
  | _ :: t, 0, v => some v :: q_nx t
  | o :: t, 1, v => q_k2 o :: q_s2 t 0 v
  | o :: t, i + 2, v => o :: q_s2 t (i + 1) v
theorem q_k2_some {o : Option Value} {w : Value} (h : q_k2 o = some w) : o = some w ∧ ¬ w.category = 2 := by
  unfold q_k2 at h
  split at h
  · cases h
  · cases h
  · rename_i h1 h2
    subst h
    refine ⟨rfl, ?_⟩
    cases w <;> simp [Value.category] at h1 h2 ⊢
theorem q_s1_len : ∀ (ll : List (Option Value)) (i : Nat) (v : Value), (q_s1 ll i v).length = ll.length
  | [], _, _ => rfl
  | _ :: t, 0, v => rfl
  | o :: t, 1, v => by show (q_s1 t 0 v).length + 1 = _; rw [q_s1_len t 0 v]; rfl
  | o :: t, i + 2, v => by show (q_s1 t (i + 1) v).length + 1 = _; rw [q_s1_len t (i + 1) v]; rfl
theorem q_s2_len : ∀ (ll : List (Option Value)) (i : Nat) (v : Value), (q_s2 ll i v).length = ll.length
  | [], _, _ => rfl
  | _ :: t, 0, v => by cases t <;> rfl
  | o :: t, 1, v => by show (q_s2 t 0 v).length + 1 = _; rw [q_s2_len t 0 v]; rfl
  | o :: t, i + 2, v => by show (q_s2 t (i + 1) v).length + 1 = _; rw [q_s2_len t (i + 1) v]; rfl
theorem q_s1_get : ∀ (ll : List (Option Value)) (i : Nat) (v : Value) (j : Nat) (w : Value), (q_s1 ll i v)[j]? = some (some w) → (j = i ∧ w = v) ∨ (j ≠ i ∧ ll[j]? = some (some w) ∧ ¬ (j + 1 = i ∧ w.category = 2))
  | [], _, _, j, w, h => by simp [q_s1] at h
  | o :: t, 0, v, 0, w, h => by simp [q_s1] at h; exact Or.inl ⟨rfl, h.symm⟩
  | o :: t, 0, v, j + 1, w, h => by simp [q_s1] at h; exact Or.inr ⟨by omega, by simpa using h, by omega⟩
  | o :: t, 1, v, 0, w, h => by
    simp [q_s1] at h
    obtain ⟨h1, h2⟩ := q_k2_some h
    exact Or.inr ⟨by omega, by simp [h1], fun q => h2 q.2⟩
  | o :: t, 1, v, j + 1, w, h => by
    simp [q_s1] at h
    rcases q_s1_get t 0 v j w h with ⟨h1, h2⟩ | ⟨h1, h2, h3⟩
    · exact Or.inl ⟨by omega, h2⟩
    · exact Or.inr ⟨by omega, by simpa using h2, by omega⟩
  | o :: t, i + 2, v, 0, w, h => by simp [q_s1] at h; exact Or.inr ⟨by omega, by simp [h], by omega⟩
  | o :: t, i + 2, v, j + 1, w, h => by
    simp [q_s1] at h
    rcases q_s1_get t (i + 1) v j w h with ⟨h1, h2⟩ | ⟨h1, h2, h3⟩
    · exact Or.inl ⟨by omega, h2⟩
    · exact Or.inr ⟨by omega, by simpa using h2, fun q => h3 ⟨by omega, q.2⟩⟩
theorem q_s2_get : ∀ (ll : List (Option Value)) (i : Nat) (v : Value) (j : Nat) (w : Value), (q_s2 ll i v)[j]? = some (some w) → (j = i ∧ w = v) ∨ (j ≠ i ∧ j ≠ i + 1 ∧ ll[j]? = some (some w) ∧ ¬ (j + 1 = i ∧ w.category = 2))
  | [], _, _, j, w, h => by simp [q_s2] at h
  | o :: t, 0, v, 0, w, h => by simp [q_s2] at h; exact Or.inl ⟨rfl, h.symm⟩
  | o :: [], 0, v, j + 1, w, h => by simp [q_s2, q_nx] at h
  | o :: o2 :: t, 0, v, 1, w, h => by simp [q_s2, q_nx] at h
  | o :: o2 :: t, 0, v, j + 2, w, h => by simp [q_s2, q_nx] at h; exact Or.inr ⟨by omega, by omega, by simpa using h, by omega⟩
  | o :: t, 1, v, 0, w, h => by
    simp [q_s2] at h
    obtain ⟨h1, h2⟩ := q_k2_some h
    exact Or.inr ⟨by omega, by omega, by simp [h1], fun q => h2 q.2⟩
  | o :: t, 1, v, j + 1, w, h => by
    simp [q_s2] at h
    rcases q_s2_get t 0 v j w h with ⟨h1, h2⟩ | ⟨h1, h2, h3, h4⟩
    · exact Or.inl ⟨by omega, h2⟩
    · exact Or.inr ⟨by omega, by omega, by simpa using h3, by omega⟩
  | o :: t, i + 2, v, 0, w, h => by simp [q_s2] at h; exact Or.inr ⟨by omega, by omega, by simp [h], by omega⟩
  | o :: t, i + 2, v, j + 1, w, h => by
    simp [q_s2] at h
    rcases q_s2_get t (i + 1) v j w h with ⟨h1, h2⟩ | ⟨h1, h2, h3, h4⟩
    · exact Or.inl ⟨by omega, h2⟩
    · exact Or.inr ⟨by omega, by omega, by simpa using h3, fun q => h4 ⟨by omega, q.2⟩⟩
/-- fewer listed values -/
theorem q_has_sub {ls : Array Slot} {nL : Nat} {l l' : List (Nat × Value)} (h : lv_has ls nL l) (hs : ∀ q ∈ l', q ∈ l) : lv_has ls nL l' := ⟨h.1, h.2.1, fun q hq => h.2.2 q (hs q hq)⟩
theorem q_L_s1 {cv : Value → Value} (hcv : ∀ v, (cv v).category = v.category) {nL : Nat} {ls : Array Slot} {ll : List (Option Value)} {i : Nat} {v : Value} (hl : ll.length = nL) (h : lv_has ls nL ((i, cv v) :: (q_as cv 0 ll).filter (fun q => !(q.1 == i) && !(q.1 + 1 == i && q.2.category == 2)))) : q_L cv nL ls (q_s1 ll i v) := by
  refine ⟨by rw [q_s1_len]; exact hl, q_has_sub h ?_⟩
  rintro ⟨j, w⟩ hq
  obtain ⟨u, -, h2, rfl⟩ := (q_as_iff cv _ 0 j w).mp hq
  rw [Nat.sub_zero] at h2
  rcases q_s1_get ll i v j u h2 with ⟨rfl, rfl⟩ | ⟨h3, h4, h5⟩
  · exact List.mem_cons_self
  · refine List.mem_cons_of_mem _ (List.mem_filter.mpr ⟨(q_as_iff cv ll 0 j _).mpr ⟨u, Nat.zero_le _, by simpa using h4, rfl⟩, ?_⟩)
    simp [hcv, h3]
    by_cases q : j + 1 = i
    · exact Or.inr (fun z => h5 ⟨q, z⟩)
    · exact Or.inl q
theorem q_L_s2 {cv : Value → Value} (hcv : ∀ v, (cv v).category = v.category) {nL : Nat} {ls : Array Slot} {ll : List (Option Value)} {i : Nat} {v : Value} (hl : ll.length = nL) (h : lv_has ls nL ((i, cv v) :: (q_as cv 0 ll).filter (fun q => !(q.1 == i) && (!(q.1 == i + 1) && !(q.1 + 1 == i && q.2.category == 2))))) : q_L cv nL ls (q_s2 ll i v) := by
  refine ⟨by rw [q_s2_len]; exact hl, q_has_sub h ?_⟩
  rintro ⟨j, w⟩ hq
  obtain ⟨u, -, h2, rfl⟩ := (q_as_iff cv _ 0 j w).mp hq
  rw [Nat.sub_zero] at h2
  rcases q_s2_get ll i v j u h2 with ⟨rfl, rfl⟩ | ⟨h3, h3', h4, h5⟩
  · exact List.mem_cons_self
  · refine List.mem_cons_of_mem _ (List.mem_filter.mpr ⟨(q_as_iff cv ll 0 j _).mpr ⟨u, Nat.zero_le _, by simpa using h4, rfl⟩, ?_⟩)
    simp [hcv, h3, h3']
    by_cases q : j + 1 = i
    · exact Or.inr (fun z => h5 ⟨q, z⟩)
    · exact Or.inl q
/-- a method's locals as it begins -/
def q_en : List Value → List (Option Value)
  | [] => []
  | .long x :: t => some (.long x) :: none :: q_en t
  | .double x :: t => some (.double x) :: none :: q_en t
  | v :: t => some v :: q_en t
def q_e0 (nL : Nat) (vs : List Value) : List (Option Value) := q_en vs ++ List.replicate (nL - (q_en vs).length) none
