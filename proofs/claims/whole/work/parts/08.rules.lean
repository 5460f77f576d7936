/-! ===== rules of the judgement G, an instruction each ===== -/
theorem G_same {d y pc pc2 : Nat} {ll ll2 : List (Option Value)} {st st2 : List Value} {M : qM} {r : Option Value} {M' : qM} (g : G d y (pc2, ll2, st2, M) r M')
    (h : ∀ (l : Launch) (D : va_G) (dA : Nat → ClassId) (kv : Nat → Value) (N0 : Nat) (p : Program) (e : Env) (s : State) (m : MethodId) (args : Array Value) (below : List Frame) (meth : Method) (co : Code) (R : Room) (Q : State → Prop), q_X D dA kv N0 y p s m args meth co → (d ≤ R.frames ∧ 36 * d ≤ R.locals) → ∀ (H : Heap) (locs : List Loc) (ls : Array Slot) (cells slots : Nat), q_L (q_cv N0 kv) (q_ml y) ls ll → q_W D dA N0 M H → va_S (q_A N0) s.heap H locs →
      (∀ ls2 : Array Slot, q_L (q_cv N0 kv) (q_ml y) ls2 ll2 → W p l e R s m args below meth co H locs cells slots Q (F0 m pc2 ls2 (st2.map (q_cv N0 kv)))) → W p l e R s m args below meth co H locs cells slots Q (F0 m pc ls (st.map (q_cv N0 kv)))) : G d y (pc, ll, st, M) r M' := by
  intro l D dA kv N0 n0 p e s m args below meth co R Q hB hn H locs ls hL hW hS
  exact h l D dA kv N0 p e s m args below meth co R Q hB.1 hB.2.1 H locs ls _ _ hL hW hS (fun ls2 hL2 => g l D dA kv N0 n0 p e s m args below meth co R Q hB hn H locs ls2 hL2 hW hS)
theorem G_iadd {d y pc : Nat} {ll : List (Option Value)} {st : List Value} {M : qM} {r : Option Value} {M' : qM} {a b : Int32} (hp : q_pg y pc = some (.iadd, 1)) (g : G d y (pc + 1, ll, .int (a + b) :: st, M) r M') : G d y (pc, ll, .int b :: .int a :: st, M) r M' :=
  G_same g fun l D dA kv N0 p e s m args below meth co R Q hX hR H locs ls cells slots hL hW hS k => lv_iadd hX.1 hX.2.1 (q_dec hp) (k ls hL)
theorem G_isub {d y pc : Nat} {ll : List (Option Value)} {st : List Value} {M : qM} {r : Option Value} {M' : qM} {a b : Int32} (hp : q_pg y pc = some (.isub, 1)) (g : G d y (pc + 1, ll, .int (a - b) :: st, M) r M') : G d y (pc, ll, .int b :: .int a :: st, M) r M' :=
  G_same g fun l D dA kv N0 p e s m args below meth co R Q hX hR H locs ls cells slots hL hW hS k => lv_isub hX.1 hX.2.1 (q_dec hp) (k ls hL)
theorem G_imul {d y pc : Nat} {ll : List (Option Value)} {st : List Value} {M : qM} {r : Option Value} {M' : qM} {a b : Int32} (hp : q_pg y pc = some (.imul, 1)) (g : G d y (pc + 1, ll, .int (a * b) :: st, M) r M') : G d y (pc, ll, .int b :: .int a :: st, M) r M' :=
  G_same g fun l D dA kv N0 p e s m args below meth co R Q hX hR H locs ls cells slots hL hW hS k => lv_imul hX.1 hX.2.1 (q_dec hp) (k ls hL)
theorem G_iand {d y pc : Nat} {ll : List (Option Value)} {st : List Value} {M : qM} {r : Option Value} {M' : qM} {a b : Int32} (hp : q_pg y pc = some (.iand, 1)) (g : G d y (pc + 1, ll, .int (a &&& b) :: st, M) r M') : G d y (pc, ll, .int b :: .int a :: st, M) r M' :=
  G_same g fun l D dA kv N0 p e s m args below meth co R Q hX hR H locs ls cells slots hL hW hS k => lv_iand hX.1 hX.2.1 (q_dec hp) (k ls hL)
theorem G_ior {d y pc : Nat} {ll : List (Option Value)} {st : List Value} {M : qM} {r : Option Value} {M' : qM} {a b : Int32} (hp : q_pg y pc = some (.ior, 1)) (g : G d y (pc + 1, ll, .int (a ||| b) :: st, M) r M') : G d y (pc, ll, .int b :: .int a :: st, M) r M' :=
  G_same g fun l D dA kv N0 p e s m args below meth co R Q hX hR H locs ls cells slots hL hW hS k => lv_ior hX.1 hX.2.1 (q_dec hp) (k ls hL)
theorem G_ishl {d y pc : Nat} {ll : List (Option Value)} {st : List Value} {M : qM} {r : Option Value} {M' : qM} {a b : Int32} (hp : q_pg y pc = some (.ishl, 1)) (g : G d y (pc + 1, ll, .int (a <<< (b &&& 31)) :: st, M) r M') : G d y (pc, ll, .int b :: .int a :: st, M) r M' :=
  G_same g fun l D dA kv N0 p e s m args below meth co R Q hX hR H locs ls cells slots hL hW hS k => lv_ishl hX.1 hX.2.1 (q_dec hp) (k ls hL)
theorem G_ishr {d y pc : Nat} {ll : List (Option Value)} {st : List Value} {M : qM} {r : Option Value} {M' : qM} {a b : Int32} (hp : q_pg y pc = some (.ishr, 1)) (g : G d y (pc + 1, ll, .int (a >>> (b &&& 31)) :: st, M) r M') : G d y (pc, ll, .int b :: .int a :: st, M) r M' :=
  G_same g fun l D dA kv N0 p e s m args below meth co R Q hX hR H locs ls cells slots hL hW hS k => lv_ishr hX.1 hX.2.1 (q_dec hp) (k ls hL)
theorem G_ladd {d y pc : Nat} {ll : List (Option Value)} {st : List Value} {M : qM} {r : Option Value} {M' : qM} {a b : Int64} (hp : q_pg y pc = some (.ladd, 1)) (g : G d y (pc + 1, ll, .long (a + b) :: st, M) r M') : G d y (pc, ll, .long b :: .long a :: st, M) r M' :=
  G_same g fun l D dA kv N0 p e s m args below meth co R Q hX hR H locs ls cells slots hL hW hS k => lv_ladd hX.1 hX.2.1 (q_dec hp) (k ls hL)
theorem G_lsub {d y pc : Nat} {ll : List (Option Value)} {st : List Value} {M : qM} {r : Option Value} {M' : qM} {a b : Int64} (hp : q_pg y pc = some (.lsub, 1)) (g : G d y (pc + 1, ll, .long (a - b) :: st, M) r M') : G d y (pc, ll, .long b :: .long a :: st, M) r M' :=
  G_same g fun l D dA kv N0 p e s m args below meth co R Q hX hR H locs ls cells slots hL hW hS k => lv_lsub hX.1 hX.2.1 (q_dec hp) (k ls hL)
theorem G_lmul {d y pc : Nat} {ll : List (Option Value)} {st : List Value} {M : qM} {r : Option Value} {M' : qM} {a b : Int64} (hp : q_pg y pc = some (.lmul, 1)) (g : G d y (pc + 1, ll, .long (a * b) :: st, M) r M') : G d y (pc, ll, .long b :: .long a :: st, M) r M' :=
  G_same g fun l D dA kv N0 p e s m args below meth co R Q hX hR H locs ls cells slots hL hW hS k => lv_lmul hX.1 hX.2.1 (q_dec hp) (k ls hL)
theorem G_land {d y pc : Nat} {ll : List (Option Value)} {st : List Value} {M : qM} {r : Option Value} {M' : qM} {a b : Int64} (hp : q_pg y pc = some (.land, 1)) (g : G d y (pc + 1, ll, .long (a &&& b) :: st, M) r M') : G d y (pc, ll, .long b :: .long a :: st, M) r M' :=
  G_same g fun l D dA kv N0 p e s m args below meth co R Q hX hR H locs ls cells slots hL hW hS k => lv_land hX.1 hX.2.1 (q_dec hp) (k ls hL)
theorem G_lor {d y pc : Nat} {ll : List (Option Value)} {st : List Value} {M : qM} {r : Option Value} {M' : qM} {a b : Int64} (hp : q_pg y pc = some (.lor, 1)) (g : G d y (pc + 1, ll, .long (a ||| b) :: st, M) r M') : G d y (pc, ll, .long b :: .long a :: st, M) r M' :=
  G_same g fun l D dA kv N0 p e s m args below meth co R Q hX hR H locs ls cells slots hL hW hS k => lv_lor hX.1 hX.2.1 (q_dec hp) (k ls hL)
theorem G_lxor {d y pc : Nat} {ll : List (Option Value)} {st : List Value} {M : qM} {r : Option Value} {M' : qM} {a b : Int64} (hp : q_pg y pc = some (.lxor, 1)) (g : G d y (pc + 1, ll, .long (a ^^^ b) :: st, M) r M') : G d y (pc, ll, .long b :: .long a :: st, M) r M' :=
  G_same g fun l D dA kv N0 p e s m args below meth co R Q hX hR H locs ls cells slots hL hW hS k => lv_lxor hX.1 hX.2.1 (q_dec hp) (k ls hL)
theorem G_lshl {d y pc : Nat} {ll : List (Option Value)} {st : List Value} {M : qM} {r : Option Value} {M' : qM} {a : Int64} {b : Int32} (hp : q_pg y pc = some (.lshl, 1)) (g : G d y (pc + 1, ll, .long (a <<< (b.toInt64 &&& 63)) :: st, M) r M') : G d y (pc, ll, .int b :: .long a :: st, M) r M' :=
  G_same g fun l D dA kv N0 p e s m args below meth co R Q hX hR H locs ls cells slots hL hW hS k => lv_lshl hX.1 hX.2.1 (q_dec hp) rfl (k ls hL)
theorem G_lshr {d y pc : Nat} {ll : List (Option Value)} {st : List Value} {M : qM} {r : Option Value} {M' : qM} {a : Int64} {b : Int32} (hp : q_pg y pc = some (.lshr, 1)) (g : G d y (pc + 1, ll, .long (a >>> (b.toInt64 &&& 63)) :: st, M) r M') : G d y (pc, ll, .int b :: .long a :: st, M) r M' :=
  G_same g fun l D dA kv N0 p e s m args below meth co R Q hX hR H locs ls cells slots hL hW hS k => lv_lshr hX.1 hX.2.1 (q_dec hp) rfl (k ls hL)
theorem G_lushr {d y pc : Nat} {ll : List (Option Value)} {st : List Value} {M : qM} {r : Option Value} {M' : qM} {a : Int64} {b : Int32} (hp : q_pg y pc = some (.lushr, 1)) (g : G d y (pc + 1, ll, .long ((a.toUInt64 >>> (b.toInt64.toUInt64 &&& Int64.toUInt64 63)).toInt64) :: st, M) r M') : G d y (pc, ll, .int b :: .long a :: st, M) r M' :=
  G_same g fun l D dA kv N0 p e s m args below meth co R Q hX hR H locs ls cells slots hL hW hS k => lv_lushr hX.1 hX.2.1 (q_dec hp) rfl (k ls hL)
theorem G_i2l {d y pc : Nat} {ll : List (Option Value)} {st : List Value} {M : qM} {r : Option Value} {M' : qM} {a : Int32} (hp : q_pg y pc = some (.i2l, 1)) (g : G d y (pc + 1, ll, .long a.toInt64 :: st, M) r M') : G d y (pc, ll, .int a :: st, M) r M' :=
  G_same g fun l D dA kv N0 p e s m args below meth co R Q hX hR H locs ls cells slots hL hW hS k => lv_i2l hX.1 hX.2.1 (q_dec hp) rfl (k ls hL)
theorem G_l2i {d y pc : Nat} {ll : List (Option Value)} {st : List Value} {M : qM} {r : Option Value} {M' : qM} {a : Int64} (hp : q_pg y pc = some (.l2i, 1)) (g : G d y (pc + 1, ll, .int a.toInt32 :: st, M) r M') : G d y (pc, ll, .long a :: st, M) r M' :=
  G_same g fun l D dA kv N0 p e s m args below meth co R Q hX hR H locs ls cells slots hL hW hS k => lv_l2i hX.1 hX.2.1 (q_dec hp) rfl (k ls hL)
theorem G_i2b {d y pc : Nat} {ll : List (Option Value)} {st : List Value} {M : qM} {r : Option Value} {M' : qM} {a : Int32} (hp : q_pg y pc = some (.i2b, 1)) (g : G d y (pc + 1, ll, .int a.toInt8.toInt32 :: st, M) r M') : G d y (pc, ll, .int a :: st, M) r M' :=
  G_same g fun l D dA kv N0 p e s m args below meth co R Q hX hR H locs ls cells slots hL hW hS k => lv_i2b hX.1 hX.2.1 (q_dec hp) rfl (k ls hL)
theorem G_i2s {d y pc : Nat} {ll : List (Option Value)} {st : List Value} {M : qM} {r : Option Value} {M' : qM} {a : Int32} (hp : q_pg y pc = some (.i2s, 1)) (g : G d y (pc + 1, ll, .int a.toInt16.toInt32 :: st, M) r M') : G d y (pc, ll, .int a :: st, M) r M' :=
  G_same g fun l D dA kv N0 p e s m args below meth co R Q hX hR H locs ls cells slots hL hW hS k => lv_i2s hX.1 hX.2.1 (q_dec hp) rfl (k ls hL)
theorem G_i2c {d y pc : Nat} {ll : List (Option Value)} {st : List Value} {M : qM} {r : Option Value} {M' : qM} {a : Int32} (hp : q_pg y pc = some (.i2c, 1)) (g : G d y (pc + 1, ll, .int (a.toUInt32 % 65536).toInt32 :: st, M) r M') : G d y (pc, ll, .int a :: st, M) r M' :=
  G_same g fun l D dA kv N0 p e s m args below meth co R Q hX hR H locs ls cells slots hL hW hS k => lv_i2c hX.1 hX.2.1 (q_dec hp) rfl (k ls hL)
theorem G_lcmp {d y pc : Nat} {ll : List (Option Value)} {st : List Value} {M : qM} {r : Option Value} {M' : qM} {a b : Int64} (hp : q_pg y pc = some (.lcmp, 1)) (g : G d y (pc + 1, ll, .int (lg_cmp a b) :: st, M) r M') : G d y (pc, ll, .long b :: .long a :: st, M) r M' :=
  G_same g fun l D dA kv N0 p e s m args below meth co R Q hX hR H locs ls cells slots hL hW hS k => W.lcmp hX.1 hX.2.1 (q_dec hp) (k ls hL)
theorem G_iconst {d y pc : Nat} {ll : List (Option Value)} {st : List Value} {M : qM} {r : Option Value} {M' : qM} {n : Int} (hp : q_pg y pc = some (.iconst n, 1)) (g : G d y (pc + 1, ll, .int (Int32.ofInt n) :: st, M) r M') : G d y (pc, ll, st, M) r M' :=
  G_same g fun l D dA kv N0 p e s m args below meth co R Q hX hR H locs ls cells slots hL hW hS k => lv_iconst hX.1 hX.2.1 (q_dec hp) rfl (k ls hL)
theorem G_bipush {d y pc : Nat} {ll : List (Option Value)} {st : List Value} {M : qM} {r : Option Value} {M' : qM} {n : Int} (hp : q_pg y pc = some (.bipush n, 2)) (g : G d y (pc + 2, ll, .int (Int8.ofInt n).toInt32 :: st, M) r M') : G d y (pc, ll, st, M) r M' :=
  G_same g fun l D dA kv N0 p e s m args below meth co R Q hX hR H locs ls cells slots hL hW hS k => lv_bipush hX.1 hX.2.1 (q_dec hp) rfl (k ls hL)
theorem G_sipush {d y pc : Nat} {ll : List (Option Value)} {st : List Value} {M : qM} {r : Option Value} {M' : qM} {n : Int} (hp : q_pg y pc = some (.sipush n, 3)) (g : G d y (pc + 3, ll, .int (Int16.ofInt n).toInt32 :: st, M) r M') : G d y (pc, ll, st, M) r M' :=
  G_same g fun l D dA kv N0 p e s m args below meth co R Q hX hR H locs ls cells slots hL hW hS k => lv_sipush hX.1 hX.2.1 (q_dec hp) rfl (k ls hL)
theorem G_lconst {d y pc : Nat} {ll : List (Option Value)} {st : List Value} {M : qM} {r : Option Value} {M' : qM} {n : Fin 2} (hp : q_pg y pc = some (.lconst n, 1)) (g : G d y (pc + 1, ll, .long (Int64.ofNat (n : Nat)) :: st, M) r M') : G d y (pc, ll, st, M) r M' :=
  G_same g fun l D dA kv N0 p e s m args below meth co R Q hX hR H locs ls cells slots hL hW hS k => lv_lconst hX.1 hX.2.1 (q_dec hp) rfl (k ls hL)
theorem G_null {d y pc : Nat} {ll : List (Option Value)} {st : List Value} {M : qM} {r : Option Value} {M' : qM}  (hp : q_pg y pc = some (.aconst_null, 1)) (g : G d y (pc + 1, ll, .null :: st, M) r M') : G d y (pc, ll, st, M) r M' :=
  G_same g fun l D dA kv N0 p e s m args below meth co R Q hX hR H locs ls cells slots hL hW hS k => lv_null hX.1 hX.2.1 (q_dec hp) (k ls hL)
theorem G_dup {d y pc : Nat} {ll : List (Option Value)} {st : List Value} {M : qM} {r : Option Value} {M' : qM} {a : Value} (hp : q_pg y pc = some (.dup, 1)) (hc : a.category = 1) (g : G d y (pc + 1, ll, a :: a :: st, M) r M') : G d y (pc, ll, a :: st, M) r M' :=
  G_same g fun l D dA kv N0 p e s m args below meth co R Q hX hR H locs ls cells slots hL hW hS k => lv_dup hX.1 hX.2.1 (q_dec hp) (by rw [q_cv_cat hX.2.2.2.2.2.2.1.2.2.2.1]; exact hc) (k ls hL)
theorem G_pop {d y pc : Nat} {ll : List (Option Value)} {st : List Value} {M : qM} {r : Option Value} {M' : qM} {a : Value} (hp : q_pg y pc = some (.pop, 1)) (hc : a.category = 1) (g : G d y (pc + 1, ll, st, M) r M') : G d y (pc, ll, a :: st, M) r M' :=
  G_same g fun l D dA kv N0 p e s m args below meth co R Q hX hR H locs ls cells slots hL hW hS k => lv_pop hX.1 hX.2.1 (q_dec hp) (by rw [q_cv_cat hX.2.2.2.2.2.2.1.2.2.2.1]; exact hc) (k ls hL)
theorem G_dup2 {d y pc : Nat} {ll : List (Option Value)} {st : List Value} {M : qM} {r : Option Value} {M' : qM} {a b : Value} (hp : q_pg y pc = some (.dup2, 1)) (hc : a.category = 1) (hc2 : b.category = 1) (g : G d y (pc + 1, ll, a :: b :: a :: b :: st, M) r M') : G d y (pc, ll, a :: b :: st, M) r M' :=
  G_same g fun l D dA kv N0 p e s m args below meth co R Q hX hR H locs ls cells slots hL hW hS k => lv_dup2_11 hX.1 hX.2.1 (q_dec hp) (by rw [q_cv_cat hX.2.2.2.2.2.2.1.2.2.2.1]; exact hc) (by rw [q_cv_cat hX.2.2.2.2.2.2.1.2.2.2.1]; exact hc2) (k ls hL)
theorem G_iload {d y pc : Nat} {ll : List (Option Value)} {st : List Value} {M : qM} {r : Option Value} {M' : qM} {i : Nat} {x : Int32} (hp : q_pg y pc = some (.iload i, 2)) (hl : ll[i]? = some (some (.int x))) (g : G d y (pc + 2, ll, .int x :: st, M) r M') : G d y (pc, ll, st, M) r M' :=
  G_same g fun l D dA kv N0 p e s m args below meth co R Q hX hR H locs ls cells slots hL hW hS k => lv_iload hX.1 hX.2.1 (q_dec hp) (q_L_at hL hl) (k ls hL)
theorem G_iload_n {d y pc : Nat} {ll : List (Option Value)} {st : List Value} {M : qM} {r : Option Value} {M' : qM} {i : Fin 4} {x : Int32} (hp : q_pg y pc = some (.iload_n i, 1)) (hl : ll[(i : Nat)]? = some (some (.int x))) (g : G d y (pc + 1, ll, .int x :: st, M) r M') : G d y (pc, ll, st, M) r M' :=
  G_same g fun l D dA kv N0 p e s m args below meth co R Q hX hR H locs ls cells slots hL hW hS k => lv_iload_n hX.1 hX.2.1 (q_dec hp) rfl (q_L_at hL hl) (k ls hL)
theorem G_lload {d y pc : Nat} {ll : List (Option Value)} {st : List Value} {M : qM} {r : Option Value} {M' : qM} {i : Nat} {x : Int64} (hp : q_pg y pc = some (.lload i, 2)) (hl : ll[i]? = some (some (.long x))) (g : G d y (pc + 2, ll, .long x :: st, M) r M') : G d y (pc, ll, st, M) r M' :=
  G_same g fun l D dA kv N0 p e s m args below meth co R Q hX hR H locs ls cells slots hL hW hS k => lv_lload hX.1 hX.2.1 (q_dec hp) (q_L_at hL hl) (k ls hL)
theorem G_lload_n {d y pc : Nat} {ll : List (Option Value)} {st : List Value} {M : qM} {r : Option Value} {M' : qM} {i : Fin 4} {x : Int64} (hp : q_pg y pc = some (.lload_n i, 1)) (hl : ll[(i : Nat)]? = some (some (.long x))) (g : G d y (pc + 1, ll, .long x :: st, M) r M') : G d y (pc, ll, st, M) r M' :=
  G_same g fun l D dA kv N0 p e s m args below meth co R Q hX hR H locs ls cells slots hL hW hS k => lv_lload_n hX.1 hX.2.1 (q_dec hp) rfl (q_L_at hL hl) (k ls hL)
theorem q_cv_rf {N0 : Nat} {kv : Nat → Value} (h : ∀ k, kv k = .null ∨ ∃ a, kv k = .ref a) {v : Value} (hv : (∃ i, v = .ref i) ∨ v = .null ∨ ∃ k, v = .float k) : q_cv N0 kv v = .null ∨ ∃ a, q_cv N0 kv v = .ref a := by
  rcases hv with ⟨i, rfl⟩ | rfl | ⟨k, rfl⟩
  · exact Or.inr ⟨_, rfl⟩
  · exact Or.inl rfl
  · exact h _
def q_isr : Value → Bool
  | .ref _ => true
  | .null => true
  | .float _ => true
  | _ => false
theorem q_isr_or {v : Value} (h : q_isr v = true) : (∃ i, v = .ref i) ∨ v = .null ∨ ∃ k, v = .float k := by
  cases v <;> first | exact Or.inl ⟨_, rfl⟩ | exact Or.inr (Or.inl rfl) | exact Or.inr (Or.inr ⟨_, rfl⟩) | cases h
theorem G_aload {d y pc : Nat} {ll : List (Option Value)} {st : List Value} {M : qM} {r : Option Value} {M' : qM} {i : Nat} {x : Value} (hp : q_pg y pc = some (.aload i, 2)) (hl : ll[i]? = some (some x)) (hr : q_isr x = true) (g : G d y (pc + 2, ll, x :: st, M) r M') : G d y (pc, ll, st, M) r M' := by
  refine G_same g fun l D dA kv N0 p e s m args below meth co R Q hX hR H locs ls cells slots hL hW hS k => ?_
  have k1 := k ls hL
  have h1 := q_L_at hL hl
  have k2 : W p l e R s m args below meth co H locs cells slots Q (F0 m (pc + 2) ls (q_cv N0 kv x :: st.map (q_cv N0 kv))) := k1
  rcases q_cv_rf (N0 := N0) hX.2.2.2.2.2.2.1.2.2.2.1 (q_isr_or hr) with h2 | ⟨a, h2⟩
  · rw [h2] at h1 k2; exact lv_aloadN hX.1 hX.2.1 (q_dec hp) h1 k2
  · rw [h2] at h1 k2; exact lv_aload hX.1 hX.2.1 (q_dec hp) h1 k2
theorem G_aload_n {d y pc : Nat} {ll : List (Option Value)} {st : List Value} {M : qM} {r : Option Value} {M' : qM} {i : Fin 4} {x : Value} (hp : q_pg y pc = some (.aload_n i, 1)) (hl : ll[(i : Nat)]? = some (some x)) (hr : q_isr x = true) (g : G d y (pc + 1, ll, x :: st, M) r M') : G d y (pc, ll, st, M) r M' := by
  refine G_same g fun l D dA kv N0 p e s m args below meth co R Q hX hR H locs ls cells slots hL hW hS k => ?_
  have k1 := k ls hL
  have h1 := q_L_at hL hl
  have k2 : W p l e R s m args below meth co H locs cells slots Q (F0 m (pc + 1) ls (q_cv N0 kv x :: st.map (q_cv N0 kv))) := k1
  rcases q_cv_rf (N0 := N0) hX.2.2.2.2.2.2.1.2.2.2.1 (q_isr_or hr) with h2 | ⟨a, h2⟩
  · rw [h2] at h1 k2; exact lv_aload_nN hX.1 hX.2.1 (q_dec hp) rfl h1 k2
  · rw [h2] at h1 k2; exact lv_aload_n hX.1 hX.2.1 (q_dec hp) rfl h1 k2
theorem G_istore {d y pc : Nat} {ll : List (Option Value)} {st : List Value} {M : qM} {r : Option Value} {M' : qM} {i : Nat} {x : Int32} (hp : q_pg y pc = some (.istore i, 2)) (hi : i < ll.length) (g : G d y (pc + 2, q_s1 ll i (.int x), st, M) r M') : G d y (pc, ll, .int x :: st, M) r M' :=
  G_same g fun l D dA kv N0 p e s m args below meth co R Q hX hR H locs ls cells slots hL hW hS k => lv_istore hX.1 hX.2.1 (q_dec hp) hL.2 (by rw [← hL.1]; exact hi) rfl (fun ls2 h2 => k ls2 (q_L_s1 (q_cv_cat hX.2.2.2.2.2.2.1.2.2.2.1) hL.1 h2))
theorem G_istore_n {d y pc : Nat} {ll : List (Option Value)} {st : List Value} {M : qM} {r : Option Value} {M' : qM} {i : Fin 4} {x : Int32} (hp : q_pg y pc = some (.istore_n i, 1)) (hi : (i : Nat) < ll.length) (g : G d y (pc + 1, q_s1 ll (i : Nat) (.int x), st, M) r M') : G d y (pc, ll, .int x :: st, M) r M' :=
  G_same g fun l D dA kv N0 p e s m args below meth co R Q hX hR H locs ls cells slots hL hW hS k => lv_istore_n hX.1 hX.2.1 (q_dec hp) rfl hL.2 (by rw [← hL.1]; exact hi) rfl (fun ls2 h2 => k ls2 (q_L_s1 (q_cv_cat hX.2.2.2.2.2.2.1.2.2.2.1) hL.1 h2))
theorem G_lstore {d y pc : Nat} {ll : List (Option Value)} {st : List Value} {M : qM} {r : Option Value} {M' : qM} {i : Nat} {x : Int64} (hp : q_pg y pc = some (.lstore i, 2)) (hi : i + 1 < ll.length) (g : G d y (pc + 2, q_s2 ll i (.long x), st, M) r M') : G d y (pc, ll, .long x :: st, M) r M' :=
  G_same g fun l D dA kv N0 p e s m args below meth co R Q hX hR H locs ls cells slots hL hW hS k => lv_lstore hX.1 hX.2.1 (q_dec hp) hL.2 (by rw [← hL.1]; exact hi) rfl (fun ls2 h2 => k ls2 (q_L_s2 (q_cv_cat hX.2.2.2.2.2.2.1.2.2.2.1) hL.1 h2))
theorem G_lstore_n {d y pc : Nat} {ll : List (Option Value)} {st : List Value} {M : qM} {r : Option Value} {M' : qM} {i : Fin 4} {x : Int64} (hp : q_pg y pc = some (.lstore_n i, 1)) (hi : (i : Nat) + 1 < ll.length) (g : G d y (pc + 1, q_s2 ll (i : Nat) (.long x), st, M) r M') : G d y (pc, ll, .long x :: st, M) r M' :=
  G_same g fun l D dA kv N0 p e s m args below meth co R Q hX hR H locs ls cells slots hL hW hS k => lv_lstore_n hX.1 hX.2.1 (q_dec hp) rfl hL.2 (by rw [← hL.1]; exact hi) rfl (fun ls2 h2 => k ls2 (q_L_s2 (q_cv_cat hX.2.2.2.2.2.2.1.2.2.2.1) hL.1 h2))
theorem G_astore {d y pc : Nat} {ll : List (Option Value)} {st : List Value} {M : qM} {r : Option Value} {M' : qM} {i : Nat} {x : Value} (hp : q_pg y pc = some (.astore i, 2)) (hr : q_isr x = true) (hi : i < ll.length) (g : G d y (pc + 2, q_s1 ll i x, st, M) r M') : G d y (pc, ll, x :: st, M) r M' := by
  refine G_same g fun l D dA kv N0 p e s m args below meth co R Q hX hR H locs ls cells slots hL hW hS k => ?_
  show W p l e R s m args below meth co H locs cells slots Q (F0 m pc ls (q_cv N0 kv x :: st.map (q_cv N0 kv)))
  have k3 : ∀ ls2 : Array Slot, lv_has ls2 (q_ml y) ((i, q_cv N0 kv x) :: (q_as (q_cv N0 kv) 0 ll).filter (fun q => !(q.1 == i) && !(q.1 + 1 == i && q.2.category == 2))) → W p l e R s m args below meth co H locs cells slots Q (F0 m (pc + 2) ls2 (st.map (q_cv N0 kv))) := fun ls2 h2 => k ls2 (q_L_s1 (q_cv_cat hX.2.2.2.2.2.2.1.2.2.2.1) hL.1 h2)
  have hi2 : i < q_ml y := by rw [← hL.1]; exact hi
  rcases q_cv_rf (N0 := N0) hX.2.2.2.2.2.2.1.2.2.2.1 (q_isr_or hr) with h2 | ⟨a, h2⟩
  · rw [h2] at k3 ⊢; exact lv_astoreN hX.1 hX.2.1 (q_dec hp) hL.2 hi2 rfl k3
  · rw [h2] at k3 ⊢; exact lv_astore hX.1 hX.2.1 (q_dec hp) hL.2 hi2 rfl k3
theorem G_astore_n {d y pc : Nat} {ll : List (Option Value)} {st : List Value} {M : qM} {r : Option Value} {M' : qM} {i : Fin 4} {x : Value} (hp : q_pg y pc = some (.astore_n i, 1)) (hr : q_isr x = true) (hi : (i : Nat) < ll.length) (g : G d y (pc + 1, q_s1 ll (i : Nat) x, st, M) r M') : G d y (pc, ll, x :: st, M) r M' := by
  refine G_same g fun l D dA kv N0 p e s m args below meth co R Q hX hR H locs ls cells slots hL hW hS k => ?_
  show W p l e R s m args below meth co H locs cells slots Q (F0 m pc ls (q_cv N0 kv x :: st.map (q_cv N0 kv)))
  have k3 : ∀ ls2 : Array Slot, lv_has ls2 (q_ml y) (((i : Nat), q_cv N0 kv x) :: (q_as (q_cv N0 kv) 0 ll).filter (fun q => !(q.1 == (i : Nat)) && !(q.1 + 1 == (i : Nat) && q.2.category == 2))) → W p l e R s m args below meth co H locs cells slots Q (F0 m (pc + 1) ls2 (st.map (q_cv N0 kv))) := fun ls2 h2 => k ls2 (q_L_s1 (q_cv_cat hX.2.2.2.2.2.2.1.2.2.2.1) hL.1 h2)
  have hi2 : (i : Nat) < q_ml y := by rw [← hL.1]; exact hi
  rcases q_cv_rf (N0 := N0) hX.2.2.2.2.2.2.1.2.2.2.1 (q_isr_or hr) with h2 | ⟨a, h2⟩
  · rw [h2] at k3 ⊢; exact lv_astore_nN hX.1 hX.2.1 (q_dec hp) rfl hL.2 hi2 rfl k3
  · rw [h2] at k3 ⊢; exact lv_astore_n hX.1 hX.2.1 (q_dec hp) rfl hL.2 hi2 rfl k3
theorem q_as_at {cv : Value → Value} {ll : List (Option Value)} {i : Nat} {x : Value} (h : ll[i]? = some (some x)) : ∃ k : Nat, (q_as cv 0 ll)[k]? = some (i, cv x) := List.getElem?_of_mem ((q_as_iff cv ll 0 i (cv x)).mpr ⟨x, Nat.zero_le _, by simpa using h, rfl⟩)
theorem G_iinc {d y pc : Nat} {ll : List (Option Value)} {st : List Value} {M : qM} {r : Option Value} {M' : qM} {i : Nat} {n : Int} {x : Int32} (hp : q_pg y pc = some (.iinc i n, 3)) (hl : ll[i]? = some (some (.int x))) (g : G d y (pc + 3, q_s1 ll i (.int (x + Int32.ofInt n)), st, M) r M') : G d y (pc, ll, st, M) r M' := by
  refine G_same g fun l D dA kv N0 p e s m args below meth co R Q hX hR H locs ls cells slots hL hW hS k => ?_
  obtain ⟨k0, hk0⟩ := q_as_at (cv := q_cv N0 kv) hl
  exact lv_iinc hX.1 hX.2.1 (q_dec hp) hL.2 (k := k0) hk0 rfl (by rw [← hL.1]; exact (List.getElem?_eq_some_iff.mp hl).1) rfl (fun ls2 h2 => k ls2 (q_L_s1 (q_cv_cat hX.2.2.2.2.2.2.1.2.2.2.1) hL.1 h2))
theorem G_goto {d y pc : Nat} {ll : List (Option Value)} {st : List Value} {M : qM} {r : Option Value} {M' : qM} {off : Int} (tgt : Nat) (hp : q_pg y pc = some (.goto off, 3)) (ht : (pc : Int) + off = (tgt : Int)) (g : G d y (tgt, ll, st, M) r M') : G d y (pc, ll, st, M) r M' :=
  G_same g fun l D dA kv N0 p e s m args below meth co R Q hX hR H locs ls cells slots hL hW hS k => lv_goto hX.1 hX.2.1 (q_dec hp) ht (k ls hL)
theorem G_ifnull {d y pc : Nat} {ll : List (Option Value)} {st : List Value} {M : qM} {r : Option Value} {M' : qM} {off : Int} {x : Nat} (hp : q_pg y pc = some (.ifnull off, 3)) (g : G d y (pc + 3, ll, st, M) r M') : G d y (pc, ll, .ref x :: st, M) r M' :=
  G_same g fun l D dA kv N0 p e s m args below meth co R Q hX hR H locs ls cells slots hL hW hS k => lv_ifnull hX.1 hX.2.1 (q_dec hp) (k ls hL)
theorem G_ifnullN {d y pc : Nat} {ll : List (Option Value)} {st : List Value} {M : qM} {r : Option Value} {M' : qM} {off : Int} (tgt : Nat) (hp : q_pg y pc = some (.ifnull off, 3)) (ht : (pc : Int) + off = (tgt : Int)) (g : G d y (tgt, ll, st, M) r M') : G d y (pc, ll, .null :: st, M) r M' :=
  G_same g fun l D dA kv N0 p e s m args below meth co R Q hX hR H locs ls cells slots hL hW hS k => lv_ifnullN hX.1 hX.2.1 (q_dec hp) ht (k ls hL)
theorem G_ifnonnull {d y pc : Nat} {ll : List (Option Value)} {st : List Value} {M : qM} {r : Option Value} {M' : qM} {off : Int} {x : Nat} (tgt : Nat) (hp : q_pg y pc = some (.ifnonnull off, 3)) (ht : (pc : Int) + off = (tgt : Int)) (g : G d y (tgt, ll, st, M) r M') : G d y (pc, ll, .ref x :: st, M) r M' :=
  G_same g fun l D dA kv N0 p e s m args below meth co R Q hX hR H locs ls cells slots hL hW hS k => lv_ifnonnull hX.1 hX.2.1 (q_dec hp) ht (k ls hL)
theorem G_ifnonnullN {d y pc : Nat} {ll : List (Option Value)} {st : List Value} {M : qM} {r : Option Value} {M' : qM} {off : Int} (hp : q_pg y pc = some (.ifnonnull off, 3)) (g : G d y (pc + 3, ll, st, M) r M') : G d y (pc, ll, .null :: st, M) r M' :=
  G_same g fun l D dA kv N0 p e s m args below meth co R Q hX hR H locs ls cells slots hL hW hS k => lv_ifnonnullN hX.1 hX.2.1 (q_dec hp) (k ls hL)
theorem G_icmp_eq {d y pc : Nat} {ll : List (Option Value)} {st : List Value} {M : qM} {r : Option Value} {M' : qM} {off : Int} {a b : Int32} (tgt : Nat) (hp : q_pg y pc = some (.if_icmp .eq off, 3)) (ht : (pc : Int) + off = (tgt : Int)) (gt : a = b → G d y (tgt, ll, st, M) r M') (gf : ¬ a = b → G d y (pc + 3, ll, st, M) r M') : G d y (pc, ll, .int b :: .int a :: st, M) r M' := by
  intro l D dA kv N0 n0 p e s m args below meth co R Q hB hn H locs ls hL hW hS
  exact lv_icmp_eq hB.1.1 hB.1.2.1 (q_dec hp) ht (fun h => gt h l D dA kv N0 n0 p e s m args below meth co R Q hB hn H locs ls hL hW hS) (fun h => gf h l D dA kv N0 n0 p e s m args below meth co R Q hB hn H locs ls hL hW hS)
theorem G_if_eq {d y pc : Nat} {ll : List (Option Value)} {st : List Value} {M : qM} {r : Option Value} {M' : qM} {off : Int} {a : Int32} (tgt : Nat) (hp : q_pg y pc = some (.ifCond .eq off, 3)) (ht : (pc : Int) + off = (tgt : Int)) (gt : a = 0 → G d y (tgt, ll, st, M) r M') (gf : ¬ a = 0 → G d y (pc + 3, ll, st, M) r M') : G d y (pc, ll, .int a :: st, M) r M' := by
  intro l D dA kv N0 n0 p e s m args below meth co R Q hB hn H locs ls hL hW hS
  exact lv_if_eq hB.1.1 hB.1.2.1 (q_dec hp) ht (fun h => gt h l D dA kv N0 n0 p e s m args below meth co R Q hB hn H locs ls hL hW hS) (fun h => gf h l D dA kv N0 n0 p e s m args below meth co R Q hB hn H locs ls hL hW hS)
theorem G_icmp_ne {d y pc : Nat} {ll : List (Option Value)} {st : List Value} {M : qM} {r : Option Value} {M' : qM} {off : Int} {a b : Int32} (tgt : Nat) (hp : q_pg y pc = some (.if_icmp .ne off, 3)) (ht : (pc : Int) + off = (tgt : Int)) (gt : ¬ a = b → G d y (tgt, ll, st, M) r M') (gf : a = b → G d y (pc + 3, ll, st, M) r M') : G d y (pc, ll, .int b :: .int a :: st, M) r M' := by
  intro l D dA kv N0 n0 p e s m args below meth co R Q hB hn H locs ls hL hW hS
  exact lv_icmp_ne hB.1.1 hB.1.2.1 (q_dec hp) ht (fun h => gt h l D dA kv N0 n0 p e s m args below meth co R Q hB hn H locs ls hL hW hS) (fun h => gf h l D dA kv N0 n0 p e s m args below meth co R Q hB hn H locs ls hL hW hS)
theorem G_if_ne {d y pc : Nat} {ll : List (Option Value)} {st : List Value} {M : qM} {r : Option Value} {M' : qM} {off : Int} {a : Int32} (tgt : Nat) (hp : q_pg y pc = some (.ifCond .ne off, 3)) (ht : (pc : Int) + off = (tgt : Int)) (gt : ¬ a = 0 → G d y (tgt, ll, st, M) r M') (gf : a = 0 → G d y (pc + 3, ll, st, M) r M') : G d y (pc, ll, .int a :: st, M) r M' := by
  intro l D dA kv N0 n0 p e s m args below meth co R Q hB hn H locs ls hL hW hS
  exact lv_if_ne hB.1.1 hB.1.2.1 (q_dec hp) ht (fun h => gt h l D dA kv N0 n0 p e s m args below meth co R Q hB hn H locs ls hL hW hS) (fun h => gf h l D dA kv N0 n0 p e s m args below meth co R Q hB hn H locs ls hL hW hS)
theorem G_icmp_lt {d y pc : Nat} {ll : List (Option Value)} {st : List Value} {M : qM} {r : Option Value} {M' : qM} {off : Int} {a b : Int32} (tgt : Nat) (hp : q_pg y pc = some (.if_icmp .lt off, 3)) (ht : (pc : Int) + off = (tgt : Int)) (gt : a < b → G d y (tgt, ll, st, M) r M') (gf : ¬ (a < b) → G d y (pc + 3, ll, st, M) r M') : G d y (pc, ll, .int b :: .int a :: st, M) r M' := by
  intro l D dA kv N0 n0 p e s m args below meth co R Q hB hn H locs ls hL hW hS
  exact lv_icmp_lt hB.1.1 hB.1.2.1 (q_dec hp) ht (fun h => gt h l D dA kv N0 n0 p e s m args below meth co R Q hB hn H locs ls hL hW hS) (fun h => gf h l D dA kv N0 n0 p e s m args below meth co R Q hB hn H locs ls hL hW hS)
theorem G_if_lt {d y pc : Nat} {ll : List (Option Value)} {st : List Value} {M : qM} {r : Option Value} {M' : qM} {off : Int} {a : Int32} (tgt : Nat) (hp : q_pg y pc = some (.ifCond .lt off, 3)) (ht : (pc : Int) + off = (tgt : Int)) (gt : a < 0 → G d y (tgt, ll, st, M) r M') (gf : ¬ (a < 0) → G d y (pc + 3, ll, st, M) r M') : G d y (pc, ll, .int a :: st, M) r M' := by
  intro l D dA kv N0 n0 p e s m args below meth co R Q hB hn H locs ls hL hW hS
  exact lv_if_lt hB.1.1 hB.1.2.1 (q_dec hp) ht (fun h => gt h l D dA kv N0 n0 p e s m args below meth co R Q hB hn H locs ls hL hW hS) (fun h => gf h l D dA kv N0 n0 p e s m args below meth co R Q hB hn H locs ls hL hW hS)
theorem G_icmp_ge {d y pc : Nat} {ll : List (Option Value)} {st : List Value} {M : qM} {r : Option Value} {M' : qM} {off : Int} {a b : Int32} (tgt : Nat) (hp : q_pg y pc = some (.if_icmp .ge off, 3)) (ht : (pc : Int) + off = (tgt : Int)) (gt : b ≤ a → G d y (tgt, ll, st, M) r M') (gf : ¬ (b ≤ a) → G d y (pc + 3, ll, st, M) r M') : G d y (pc, ll, .int b :: .int a :: st, M) r M' := by
  intro l D dA kv N0 n0 p e s m args below meth co R Q hB hn H locs ls hL hW hS
  exact lv_icmp_ge hB.1.1 hB.1.2.1 (q_dec hp) ht (fun h => gt h l D dA kv N0 n0 p e s m args below meth co R Q hB hn H locs ls hL hW hS) (fun h => gf h l D dA kv N0 n0 p e s m args below meth co R Q hB hn H locs ls hL hW hS)
theorem G_if_ge {d y pc : Nat} {ll : List (Option Value)} {st : List Value} {M : qM} {r : Option Value} {M' : qM} {off : Int} {a : Int32} (tgt : Nat) (hp : q_pg y pc = some (.ifCond .ge off, 3)) (ht : (pc : Int) + off = (tgt : Int)) (gt : 0 ≤ a → G d y (tgt, ll, st, M) r M') (gf : ¬ (0 ≤ a) → G d y (pc + 3, ll, st, M) r M') : G d y (pc, ll, .int a :: st, M) r M' := by
  intro l D dA kv N0 n0 p e s m args below meth co R Q hB hn H locs ls hL hW hS
  exact lv_if_ge hB.1.1 hB.1.2.1 (q_dec hp) ht (fun h => gt h l D dA kv N0 n0 p e s m args below meth co R Q hB hn H locs ls hL hW hS) (fun h => gf h l D dA kv N0 n0 p e s m args below meth co R Q hB hn H locs ls hL hW hS)
theorem G_icmp_gt {d y pc : Nat} {ll : List (Option Value)} {st : List Value} {M : qM} {r : Option Value} {M' : qM} {off : Int} {a b : Int32} (tgt : Nat) (hp : q_pg y pc = some (.if_icmp .gt off, 3)) (ht : (pc : Int) + off = (tgt : Int)) (gt : b < a → G d y (tgt, ll, st, M) r M') (gf : ¬ (b < a) → G d y (pc + 3, ll, st, M) r M') : G d y (pc, ll, .int b :: .int a :: st, M) r M' := by
  intro l D dA kv N0 n0 p e s m args below meth co R Q hB hn H locs ls hL hW hS
  exact lv_icmp_gt hB.1.1 hB.1.2.1 (q_dec hp) ht (fun h => gt h l D dA kv N0 n0 p e s m args below meth co R Q hB hn H locs ls hL hW hS) (fun h => gf h l D dA kv N0 n0 p e s m args below meth co R Q hB hn H locs ls hL hW hS)
theorem G_if_gt {d y pc : Nat} {ll : List (Option Value)} {st : List Value} {M : qM} {r : Option Value} {M' : qM} {off : Int} {a : Int32} (tgt : Nat) (hp : q_pg y pc = some (.ifCond .gt off, 3)) (ht : (pc : Int) + off = (tgt : Int)) (gt : 0 < a → G d y (tgt, ll, st, M) r M') (gf : ¬ (0 < a) → G d y (pc + 3, ll, st, M) r M') : G d y (pc, ll, .int a :: st, M) r M' := by
  intro l D dA kv N0 n0 p e s m args below meth co R Q hB hn H locs ls hL hW hS
  exact lv_if_gt hB.1.1 hB.1.2.1 (q_dec hp) ht (fun h => gt h l D dA kv N0 n0 p e s m args below meth co R Q hB hn H locs ls hL hW hS) (fun h => gf h l D dA kv N0 n0 p e s m args below meth co R Q hB hn H locs ls hL hW hS)
theorem G_icmp_le {d y pc : Nat} {ll : List (Option Value)} {st : List Value} {M : qM} {r : Option Value} {M' : qM} {off : Int} {a b : Int32} (tgt : Nat) (hp : q_pg y pc = some (.if_icmp .le off, 3)) (ht : (pc : Int) + off = (tgt : Int)) (gt : a ≤ b → G d y (tgt, ll, st, M) r M') (gf : ¬ (a ≤ b) → G d y (pc + 3, ll, st, M) r M') : G d y (pc, ll, .int b :: .int a :: st, M) r M' := by
  intro l D dA kv N0 n0 p e s m args below meth co R Q hB hn H locs ls hL hW hS
  exact lv_icmp_le hB.1.1 hB.1.2.1 (q_dec hp) ht (fun h => gt h l D dA kv N0 n0 p e s m args below meth co R Q hB hn H locs ls hL hW hS) (fun h => gf h l D dA kv N0 n0 p e s m args below meth co R Q hB hn H locs ls hL hW hS)
theorem G_if_le {d y pc : Nat} {ll : List (Option Value)} {st : List Value} {M : qM} {r : Option Value} {M' : qM} {off : Int} {a : Int32} (tgt : Nat) (hp : q_pg y pc = some (.ifCond .le off, 3)) (ht : (pc : Int) + off = (tgt : Int)) (gt : a ≤ 0 → G d y (tgt, ll, st, M) r M') (gf : ¬ (a ≤ 0) → G d y (pc + 3, ll, st, M) r M') : G d y (pc, ll, .int a :: st, M) r M' := by
  intro l D dA kv N0 n0 p e s m args below meth co R Q hB hn H locs ls hL hW hS
  exact lv_if_le hB.1.1 hB.1.2.1 (q_dec hp) ht (fun h => gt h l D dA kv N0 n0 p e s m args below meth co R Q hB hn H locs ls hL hW hS) (fun h => gf h l D dA kv N0 n0 p e s m args below meth co R Q hB hn H locs ls hL hW hS)
theorem G_idiv {d y pc : Nat} {ll : List (Option Value)} {st : List Value} {M : qM} {r : Option Value} {M' : qM} {a b : Int32} (hp : q_pg y pc = some (.idiv, 1)) (hne : ¬ b = 0) (g : G d y (pc + 1, ll, .int (a / b) :: st, M) r M') : G d y (pc, ll, .int b :: .int a :: st, M) r M' :=
  G_same g fun l D dA kv N0 p e s m args below meth co R Q hX hR H locs ls cells slots hL hW hS k => lv_idiv hX.1 hX.2.1 (q_dec hp) hne (k ls hL)
theorem G_ldiv {d y pc : Nat} {ll : List (Option Value)} {st : List Value} {M : qM} {r : Option Value} {M' : qM} {a b : Int64} (hp : q_pg y pc = some (.ldiv, 1)) (hne : ¬ b = 0) (g : G d y (pc + 1, ll, .long (a / b) :: st, M) r M') : G d y (pc, ll, .long b :: .long a :: st, M) r M' :=
  G_same g fun l D dA kv N0 p e s m args below meth co R Q hX hR H locs ls cells slots hL hW hS k => lv_ldiv hX.1 hX.2.1 (q_dec hp) hne (k ls hL)
theorem G_lrem {d y pc : Nat} {ll : List (Option Value)} {st : List Value} {M : qM} {r : Option Value} {M' : qM} {a b : Int64} (hp : q_pg y pc = some (.lrem, 1)) (hne : ¬ b = 0) (g : G d y (pc + 1, ll, .long (a - a / b * b) :: st, M) r M') : G d y (pc, ll, .long b :: .long a :: st, M) r M' :=
  G_same g fun l D dA kv N0 p e s m args below meth co R Q hX hR H locs ls cells slots hL hW hS k => lv_lrem hX.1 hX.2.1 (q_dec hp) hne (k ls hL)
theorem G_tsIn {d y pc : Nat} {ll : List (Option Value)} {st : List Value} {M : qM} {r : Option Value} {M' : qM} {dflt lo hi : Int} {offs : Array Int} {len : Nat} {x : Int32} {off : Int} (tgt : Nat) (hp : q_pg y pc = some (.tableswitch dflt lo hi offs, len)) (h1 : ¬ x.toInt < lo) (h2 : ¬ hi < x.toInt) (ho : offs[(x.toInt - lo).toNat]? = some off) (ht : (pc : Int) + off = (tgt : Int)) (g : G d y (tgt, ll, st, M) r M') : G d y (pc, ll, .int x :: st, M) r M' :=
  G_same g fun l D dA kv N0 p e s m args below meth co R Q hX hR H locs ls cells slots hL hW hS k => lv_tableIn hX.1 hX.2.1 (q_dec hp) h1 h2 ho ht (k ls hL)
theorem G_tsOut {d y pc : Nat} {ll : List (Option Value)} {st : List Value} {M : qM} {r : Option Value} {M' : qM} {dflt lo hi : Int} {offs : Array Int} {len : Nat} {x : Int32} (tgt : Nat) (hp : q_pg y pc = some (.tableswitch dflt lo hi offs, len)) (h : x.toInt < lo ∨ hi < x.toInt) (ht : (pc : Int) + dflt = (tgt : Int)) (g : G d y (tgt, ll, st, M) r M') : G d y (pc, ll, .int x :: st, M) r M' :=
  G_same g fun l D dA kv N0 p e s m args below meth co R Q hX hR H locs ls cells slots hL hW hS k => lv_tableOut hX.1 hX.2.1 (q_dec hp) h ht (k ls hL)
theorem G_ls {d y pc : Nat} {ll : List (Option Value)} {st : List Value} {M : qM} {r : Option Value} {M' : qM} {dflt : Int} {ps : Array (Int × Int)} {len : Nat} {x : Int32} {off : Int} (tgt : Nat) (hp : q_pg y pc = some (.lookupswitch dflt ps, len)) (hs : (ps.toList.zip (ps.toList.drop 1)).all (fun (a, next) => a.1 < next.1) = true) (ho : Op.lookupswitch.offset ps.toList dflt x.toInt = off) (ht : (pc : Int) + off = (tgt : Int)) (g : G d y (tgt, ll, st, M) r M') : G d y (pc, ll, .int x :: st, M) r M' :=
  G_same g fun l D dA kv N0 p e s m args below meth co R Q hX hR H locs ls cells slots hL hW hS k => lv_lookup hX.1 hX.2.1 (q_dec hp) hs ho ht (k ls hL)
theorem G_ldc {d y pc : Nat} {ll : List (Option Value)} {st : List Value} {M : qM} {r : Option Value} {M' : qM} {idx : Nat} {x : Int32} (hp : q_pg y pc = some (.ldc idx, 2)) (hc : q_ct (q_on y) idx = some (.int x)) (g : G d y (pc + 2, ll, .int x :: st, M) r M') : G d y (pc, ll, st, M) r M' :=
  G_same g fun l D dA kv N0 p e s m args below meth co R Q hX hR H locs ls cells slots hL hW hS k => lv_ldc hX.1 hX.2.1 hX.2.2.2.1 (hX.2.2.2.2.1 _ (q_cti (q_on1 (q_ylt hp)).1 hc)) (q_dec hp) (k ls hL)
theorem G_ldc2 {d y pc : Nat} {ll : List (Option Value)} {st : List Value} {M : qM} {r : Option Value} {M' : qM} {idx : Nat} {x : Int64} (hp : q_pg y pc = some (.ldc2_w idx, 3)) (hc : q_ct (q_on y) idx = some (.long x)) (g : G d y (pc + 3, ll, .long x :: st, M) r M') : G d y (pc, ll, st, M) r M' :=
  G_same g fun l D dA kv N0 p e s m args below meth co R Q hX hR H locs ls cells slots hL hW hS k => lv_ldc2 hX.1 hX.2.1 hX.2.2.2.1 (hX.2.2.2.2.1 _ (q_ctl (q_on1 (q_ylt hp)).1 hc)) (q_dec hp) (k ls hL)
