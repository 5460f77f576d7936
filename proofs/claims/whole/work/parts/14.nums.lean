/-! ===== small numbers ===== -/
theorem q_clamp {n : Nat} (h : n < 2 ^ 31) : (nI n).toNatClampNeg = n := nI_clamp h
def q_b (b : Bool) : Int32 := cond b 1 0
theorem q_b0 {b : Bool} : q_b b = 0 ↔ b = false := by cases b <;> decide
theorem q_b1 {b : Bool} (h : ¬ q_b b = 0) : b = true := by cases b with | true => rfl | false => exact absurd rfl h
theorem q_bn {b : Bool} : narrow .boolean (.int (q_b b)) = .int (q_b b) := by cases b <;> rfl
theorem q_lt_int (a b : Int32) : a < b ↔ a.toInt < b.toInt := Int32.lt_iff_toInt_lt
theorem q_le_int (a b : Int32) : a ≤ b ↔ a.toInt ≤ b.toInt := Int32.le_iff_toInt_le
theorem q_eq_int (a b : Int32) : a = b ↔ a.toInt = b.toInt := Int32.toInt_inj.symm
theorem q_nltN {n : Nat} {x : Int32} (hx : x < 0) (h : n < 2 ^ 31) : ¬ nI n < x := by
  rw [q_lt_int] at hx ⊢
  rw [nI_toInt h]
  have : (0 : Int32).toInt = 0 := rfl
  omega
theorem q_nleN {n : Nat} {x : Int32} (hx : x < 0) (h : n < 2 ^ 31) : ¬ nI n ≤ x := by
  rw [q_lt_int] at hx
  rw [q_le_int, nI_toInt h]
  have : (0 : Int32).toInt = 0 := rfl
  omega
theorem q_neN {n : Nat} {x : Int32} (hx : x < 0) (h : n < 2 ^ 31) : ¬ nI n = x := by
  rw [q_lt_int] at hx
  rw [q_eq_int, nI_toInt h]
  have : (0 : Int32).toInt = 0 := rfl
  omega
theorem q_cmp_lt (a b : Int64) : lg_cmp a b < 0 ↔ a < b := by
  unfold lg_cmp
  simp only [gt_iff_lt, Int64.lt_iff_toInt_lt, ← Int64.toInt_inj]
  split
  · simp; omega
  · split
    · simp; omega
    · simp; omega
theorem q_cmp_gt (a b : Int64) : 0 < lg_cmp a b ↔ b < a := by
  unfold lg_cmp
  simp only [gt_iff_lt, Int64.lt_iff_toInt_lt, ← Int64.toInt_inj]
  split
  · simp; omega
  · split
    · simp; omega
    · simp; omega
theorem q_cmp_ge (a b : Int64) : 0 ≤ lg_cmp a b ↔ b ≤ a := lg_cmp_ge a b
theorem q_cmp_le (a b : Int64) : lg_cmp a b ≤ 0 ↔ a ≤ b := by
  unfold lg_cmp
  simp only [gt_iff_lt, Int64.lt_iff_toInt_lt, Int64.le_iff_toInt_le, ← Int64.toInt_inj]
  split
  · simp; omega
  · split
    · simp; omega
    · simp; omega
theorem q_cmp_eq (a b : Int64) : lg_cmp a b = 0 ↔ a = b := by
  unfold lg_cmp
  simp only [gt_iff_lt, Int64.lt_iff_toInt_lt, ← Int64.toInt_inj]
  split
  · simp; omega
  · split
    · simp; omega
    · simp; omega
/-- an int is a number below n, or not -/
theorem q_ix (x : Int32) {n : Nat} (hn : n < 2 ^ 31) : (∃ j : Nat, j < n ∧ x = nI j) ∨ (x < 0 ∨ nI n ≤ x) := by
  rcases pk_ix x hn with h | h | h
  · exact Or.inr (Or.inl h)
  · exact Or.inr (Or.inr h)
  · exact Or.inl h
theorem q_6 (a b : Nat) : (6 : Int32) * nI a + nI b = nI (6 * a + b) := by rw [show (6 : Int32) = nI 6 from rfl, pk_mul, nI_add]
theorem q_us {α : Type} (f : Nat → Nat → α) (i k : Nat) (x : α) : q_u f i k x i k = x := by simp [q_u]
theorem q_un {α : Type} (f : Nat → Nat → α) {i k a b : Nat} (x : α) (h : ¬ (a = i ∧ b = k)) : q_u f i k x a b = f a b := by simp [q_u, h]
/-- fewer locals known -/
def q_le : List (Option Value) → List (Option Value) → Prop
  | [], [] => True
  | none :: t, _ :: u => q_le t u
  | some a :: t, some b :: u => a = b ∧ q_le t u
  | _, _ => False
theorem q_le_len : ∀ {a b : List (Option Value)}, q_le a b → a.length = b.length
  | [], [], _ => rfl
  | none :: t, _ :: u, h => by rw [List.length_cons, List.length_cons, q_le_len (a := t) (b := u) h]
  | some x :: t, some y :: u, h => by rw [List.length_cons, List.length_cons, q_le_len (a := t) (b := u) h.2]
  | [], _ :: _, h => absurd h (by simp [q_le])
  | none :: _, [], h => absurd h (by simp [q_le])
  | some _ :: _, [], h => absurd h (by simp [q_le])
  | some _ :: _, none :: _, h => absurd h (by simp [q_le])
theorem q_le_get : ∀ {a b : List (Option Value)}, q_le a b → ∀ (i : Nat) (v : Value), a[i]? = some (some v) → b[i]? = some (some v)
  | [], [], _, i, v, h => by simp at h
  | none :: t, o :: u, h, 0, v, hi => by simp at hi
  | none :: t, o :: u, h, i + 1, v, hi => by
    rw [List.getElem?_cons_succ] at hi ⊢
    exact q_le_get (a := t) (b := u) h i v hi
  | some x :: t, some y :: u, h, 0, v, hi => by
    have e : x = y := h.1
    subst e
    exact hi
  | some x :: t, some y :: u, h, i + 1, v, hi => by
    rw [List.getElem?_cons_succ] at hi ⊢
    exact q_le_get (a := t) (b := u) h.2 i v hi
  | [], _ :: _, h, _, _, _ => absurd h (by simp [q_le])
  | none :: _, [], h, _, _, _ => absurd h (by simp [q_le])
  | some _ :: _, [], h, _, _, _ => absurd h (by simp [q_le])
  | some _ :: _, none :: _, h, _, _, _ => absurd h (by simp [q_le])
theorem G_fg {d y pc : Nat} {ll : List (Option Value)} {st : List Value} {M : qM} {r : Option Value} {M' : qM} (ll2 : List (Option Value)) (h : q_le ll2 ll) (g : G d y (pc, ll2, st, M) r M') : G d y (pc, ll, st, M) r M' := by
  intro l D dA kv N0 n0 p e s m args below meth co R Q hB hn H locs ls hL hW hS
  refine g l D dA kv N0 n0 p e s m args below meth co R Q hB hn H locs ls ⟨(q_le_len h).trans hL.1, q_has_sub hL.2 ?_⟩ hW hS
  rintro ⟨j, w⟩ hq
  obtain ⟨v, -, h2, rfl⟩ := (q_as_iff _ _ 0 j w).mp hq
  exact (q_as_iff _ _ 0 j _).mpr ⟨v, Nat.zero_le _, q_le_get h _ v h2, rfl⟩
theorem q_addP {A B : Int32} {a b : Nat} (h1 : A = nI a) (h2 : B = nI b) : A + B = nI (a + b) := by rw [h1, h2, nI_add]
theorem q_mulP {A B : Int32} {a b : Nat} (h1 : A = nI a) (h2 : B = nI b) : A * B = nI (a * b) := by rw [h1, h2, pk_mul]
theorem q_subP {A B : Int32} {a b : Nat} (h1 : A = nI a) (h2 : B = nI b) (h : b ≤ a) : A - B = nI (a - b) := by rw [h1, h2, pk_sub h]
theorem q_decP {A : Int32} {a : Nat} (h1 : A = nI a) (n : Nat) {m : Int32} (hm : m = -nI n) (h : n ≤ a) : A + m = nI (a - n) := by
  rw [h1, hm, ← pk_sub h, Int32.sub_eq_add_neg]
theorem q_i2lP {A : Int32} {a : Nat} (h1 : A = nI a) (h : a < 2 ^ 31) : A.toInt64 = lN a := by rw [h1, nI_l h]
