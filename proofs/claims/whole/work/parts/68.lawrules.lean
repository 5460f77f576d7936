/-! ===== the law: the rules once more, for one context, without an end that is known beforehand ===== -/
def q_XL (D : va_G) (dA : Nat → ClassId) (kv : Nat → Value) (N0 : Nat) (p : Program) (s : State) (m : MethodId) (args : Array Value) (co : Code) : Prop :=
  p.tables.exec = Jvm.exec ∧ co.code = q_cb 161 ∧ co.maxLocals = q_ml 161 ∧ s.vm.findClass (q_os (q_on 161)) = some m.cls ∧ (∀ w ∈ qTB, w.before args s = true) ∧ True ∧ q_F D dA kv N0 s ∧ N0 ≤ s.heap.size
def q_LW (l : Launch) (D : va_G) (dA : Nat → ClassId) (kv : Nat → Value) (N0 : Nat) (p : Program) (e : Env) (s : State) (m : MethodId) (args : Array Value) (below : List Frame) (meth : Method) (co : Code) (R : Room) (Q : State → Prop) (c : qC) : Prop :=
  ∀ (H : Heap) (locs : List Loc) (ls : Array Slot), q_L (q_cv N0 kv) (q_ml 161) ls c.2.1 → q_W D dA N0 c.2.2.2 H → va_S (q_A N0) s.heap H locs →
    W p l e R s m args below meth co H locs (q_n c.2.2.2 - 0) (q_sl (q_n c.2.2.2) - q_sl 0) Q (F0 m c.1 ls (c.2.2.1.map (q_cv N0 kv)))
theorem L_same {l : Launch} {D : va_G} {dA : Nat → ClassId} {kv : Nat → Value} {N0 : Nat} {p : Program} {e : Env} {s : State} {m : MethodId} {args : Array Value} {below : List Frame} {meth : Method} {co : Code} {R : Room} {Q : State → Prop} {pc pc2 : Nat} {ll ll2 : List (Option Value)} {st st2 : List Value} {M : qM} (g : q_LW l D dA kv N0 p e s m args below meth co R Q (pc2, ll2, st2, M))
    (h : ∀ (H : Heap) (locs : List Loc) (ls : Array Slot) (cells slots : Nat), q_L (q_cv N0 kv) (q_ml 161) ls ll → q_W D dA N0 M H → va_S (q_A N0) s.heap H locs →
      (∀ ls2 : Array Slot, q_L (q_cv N0 kv) (q_ml 161) ls2 ll2 → W p l e R s m args below meth co H locs cells slots Q (F0 m pc2 ls2 (st2.map (q_cv N0 kv)))) → W p l e R s m args below meth co H locs cells slots Q (F0 m pc ls (st.map (q_cv N0 kv)))) : q_LW l D dA kv N0 p e s m args below meth co R Q (pc, ll, st, M) :=
  fun H locs ls hL hW hS => h H locs ls _ _ hL hW hS (fun ls2 hL2 => g H locs ls2 hL2 hW hS)
theorem L_iadd {l : Launch} {D : va_G} {dA : Nat → ClassId} {kv : Nat → Value} {N0 : Nat} {p : Program} {e : Env} {s : State} {m : MethodId} {args : Array Value} {below : List Frame} {meth : Method} {co : Code} {R : Room} {Q : State → Prop} (hX : q_XL D dA kv N0 p s m args co) {pc : Nat} {ll : List (Option Value)} {st : List Value} {M : qM}  {a b : Int32} (hp : q_pg 161 pc = some (.iadd, 1)) (g : q_LW l D dA kv N0 p e s m args below meth co R Q (pc + 1, ll, .int (a + b) :: st, M)) : q_LW l D dA kv N0 p e s m args below meth co R Q (pc, ll, .int b :: .int a :: st, M) :=
  L_same g fun H locs ls cells slots hL hW hS k => lv_iadd hX.1 hX.2.1 (q_dec hp) (k ls hL)
theorem L_isub {l : Launch} {D : va_G} {dA : Nat → ClassId} {kv : Nat → Value} {N0 : Nat} {p : Program} {e : Env} {s : State} {m : MethodId} {args : Array Value} {below : List Frame} {meth : Method} {co : Code} {R : Room} {Q : State → Prop} (hX : q_XL D dA kv N0 p s m args co) {pc : Nat} {ll : List (Option Value)} {st : List Value} {M : qM}  {a b : Int32} (hp : q_pg 161 pc = some (.isub, 1)) (g : q_LW l D dA kv N0 p e s m args below meth co R Q (pc + 1, ll, .int (a - b) :: st, M)) : q_LW l D dA kv N0 p e s m args below meth co R Q (pc, ll, .int b :: .int a :: st, M) :=
  L_same g fun H locs ls cells slots hL hW hS k => lv_isub hX.1 hX.2.1 (q_dec hp) (k ls hL)
theorem L_iand {l : Launch} {D : va_G} {dA : Nat → ClassId} {kv : Nat → Value} {N0 : Nat} {p : Program} {e : Env} {s : State} {m : MethodId} {args : Array Value} {below : List Frame} {meth : Method} {co : Code} {R : Room} {Q : State → Prop} (hX : q_XL D dA kv N0 p s m args co) {pc : Nat} {ll : List (Option Value)} {st : List Value} {M : qM}  {a b : Int32} (hp : q_pg 161 pc = some (.iand, 1)) (g : q_LW l D dA kv N0 p e s m args below meth co R Q (pc + 1, ll, .int (a &&& b) :: st, M)) : q_LW l D dA kv N0 p e s m args below meth co R Q (pc, ll, .int b :: .int a :: st, M) :=
  L_same g fun H locs ls cells slots hL hW hS k => lv_iand hX.1 hX.2.1 (q_dec hp) (k ls hL)
theorem L_land {l : Launch} {D : va_G} {dA : Nat → ClassId} {kv : Nat → Value} {N0 : Nat} {p : Program} {e : Env} {s : State} {m : MethodId} {args : Array Value} {below : List Frame} {meth : Method} {co : Code} {R : Room} {Q : State → Prop} (hX : q_XL D dA kv N0 p s m args co) {pc : Nat} {ll : List (Option Value)} {st : List Value} {M : qM}  {a b : Int64} (hp : q_pg 161 pc = some (.land, 1)) (g : q_LW l D dA kv N0 p e s m args below meth co R Q (pc + 1, ll, .long (a &&& b) :: st, M)) : q_LW l D dA kv N0 p e s m args below meth co R Q (pc, ll, .long b :: .long a :: st, M) :=
  L_same g fun H locs ls cells slots hL hW hS k => lv_land hX.1 hX.2.1 (q_dec hp) (k ls hL)
theorem L_lor {l : Launch} {D : va_G} {dA : Nat → ClassId} {kv : Nat → Value} {N0 : Nat} {p : Program} {e : Env} {s : State} {m : MethodId} {args : Array Value} {below : List Frame} {meth : Method} {co : Code} {R : Room} {Q : State → Prop} (hX : q_XL D dA kv N0 p s m args co) {pc : Nat} {ll : List (Option Value)} {st : List Value} {M : qM}  {a b : Int64} (hp : q_pg 161 pc = some (.lor, 1)) (g : q_LW l D dA kv N0 p e s m args below meth co R Q (pc + 1, ll, .long (a ||| b) :: st, M)) : q_LW l D dA kv N0 p e s m args below meth co R Q (pc, ll, .long b :: .long a :: st, M) :=
  L_same g fun H locs ls cells slots hL hW hS k => lv_lor hX.1 hX.2.1 (q_dec hp) (k ls hL)
theorem L_lshl {l : Launch} {D : va_G} {dA : Nat → ClassId} {kv : Nat → Value} {N0 : Nat} {p : Program} {e : Env} {s : State} {m : MethodId} {args : Array Value} {below : List Frame} {meth : Method} {co : Code} {R : Room} {Q : State → Prop} (hX : q_XL D dA kv N0 p s m args co) {pc : Nat} {ll : List (Option Value)} {st : List Value} {M : qM}  {a : Int64} {b : Int32} (hp : q_pg 161 pc = some (.lshl, 1)) (g : q_LW l D dA kv N0 p e s m args below meth co R Q (pc + 1, ll, .long (a <<< (b.toInt64 &&& 63)) :: st, M)) : q_LW l D dA kv N0 p e s m args below meth co R Q (pc, ll, .int b :: .long a :: st, M) :=
  L_same g fun H locs ls cells slots hL hW hS k => lv_lshl hX.1 hX.2.1 (q_dec hp) rfl (k ls hL)
theorem L_i2l {l : Launch} {D : va_G} {dA : Nat → ClassId} {kv : Nat → Value} {N0 : Nat} {p : Program} {e : Env} {s : State} {m : MethodId} {args : Array Value} {below : List Frame} {meth : Method} {co : Code} {R : Room} {Q : State → Prop} (hX : q_XL D dA kv N0 p s m args co) {pc : Nat} {ll : List (Option Value)} {st : List Value} {M : qM}  {a : Int32} (hp : q_pg 161 pc = some (.i2l, 1)) (g : q_LW l D dA kv N0 p e s m args below meth co R Q (pc + 1, ll, .long a.toInt64 :: st, M)) : q_LW l D dA kv N0 p e s m args below meth co R Q (pc, ll, .int a :: st, M) :=
  L_same g fun H locs ls cells slots hL hW hS k => lv_i2l hX.1 hX.2.1 (q_dec hp) rfl (k ls hL)
theorem L_iconst {l : Launch} {D : va_G} {dA : Nat → ClassId} {kv : Nat → Value} {N0 : Nat} {p : Program} {e : Env} {s : State} {m : MethodId} {args : Array Value} {below : List Frame} {meth : Method} {co : Code} {R : Room} {Q : State → Prop} (hX : q_XL D dA kv N0 p s m args co) {pc : Nat} {ll : List (Option Value)} {st : List Value} {M : qM}  {n : Int} (hp : q_pg 161 pc = some (.iconst n, 1)) (g : q_LW l D dA kv N0 p e s m args below meth co R Q (pc + 1, ll, .int (Int32.ofInt n) :: st, M)) : q_LW l D dA kv N0 p e s m args below meth co R Q (pc, ll, st, M) :=
  L_same g fun H locs ls cells slots hL hW hS k => lv_iconst hX.1 hX.2.1 (q_dec hp) rfl (k ls hL)
theorem L_bipush {l : Launch} {D : va_G} {dA : Nat → ClassId} {kv : Nat → Value} {N0 : Nat} {p : Program} {e : Env} {s : State} {m : MethodId} {args : Array Value} {below : List Frame} {meth : Method} {co : Code} {R : Room} {Q : State → Prop} (hX : q_XL D dA kv N0 p s m args co) {pc : Nat} {ll : List (Option Value)} {st : List Value} {M : qM}  {n : Int} (hp : q_pg 161 pc = some (.bipush n, 2)) (g : q_LW l D dA kv N0 p e s m args below meth co R Q (pc + 2, ll, .int (Int8.ofInt n).toInt32 :: st, M)) : q_LW l D dA kv N0 p e s m args below meth co R Q (pc, ll, st, M) :=
  L_same g fun H locs ls cells slots hL hW hS k => lv_bipush hX.1 hX.2.1 (q_dec hp) rfl (k ls hL)
theorem L_aload_n {l : Launch} {D : va_G} {dA : Nat → ClassId} {kv : Nat → Value} {N0 : Nat} {p : Program} {e : Env} {s : State} {m : MethodId} {args : Array Value} {below : List Frame} {meth : Method} {co : Code} {R : Room} {Q : State → Prop} (hX : q_XL D dA kv N0 p s m args co) {pc : Nat} {ll : List (Option Value)} {st : List Value} {M : qM}  {i : Fin 4} {x : Value} (hp : q_pg 161 pc = some (.aload_n i, 1)) (hl : ll[(i : Nat)]? = some (some x)) (hr : q_isr x = true) (g : q_LW l D dA kv N0 p e s m args below meth co R Q (pc + 1, ll, x :: st, M)) : q_LW l D dA kv N0 p e s m args below meth co R Q (pc, ll, st, M) := by
  refine L_same g fun H locs ls cells slots hL hW hS k => ?_
  have k1 := k ls hL
  have h1 := q_L_at hL hl
  have k2 : W p l e R s m args below meth co H locs cells slots Q (F0 m (pc + 1) ls (q_cv N0 kv x :: st.map (q_cv N0 kv))) := k1
  rcases q_cv_rf (N0 := N0) hX.2.2.2.2.2.2.1.2.2.2.1 (q_isr_or hr) with h2 | ⟨a, h2⟩
  · rw [h2] at h1 k2; exact lv_aload_nN hX.1 hX.2.1 (q_dec hp) rfl h1 k2
  · rw [h2] at h1 k2; exact lv_aload_n hX.1 hX.2.1 (q_dec hp) rfl h1 k2
theorem L_iload_n {l : Launch} {D : va_G} {dA : Nat → ClassId} {kv : Nat → Value} {N0 : Nat} {p : Program} {e : Env} {s : State} {m : MethodId} {args : Array Value} {below : List Frame} {meth : Method} {co : Code} {R : Room} {Q : State → Prop} (hX : q_XL D dA kv N0 p s m args co) {pc : Nat} {ll : List (Option Value)} {st : List Value} {M : qM}  {i : Fin 4} {x : Int32} (hp : q_pg 161 pc = some (.iload_n i, 1)) (hl : ll[(i : Nat)]? = some (some (.int x))) (g : q_LW l D dA kv N0 p e s m args below meth co R Q (pc + 1, ll, .int x :: st, M)) : q_LW l D dA kv N0 p e s m args below meth co R Q (pc, ll, st, M) :=
  L_same g fun H locs ls cells slots hL hW hS k => lv_iload_n hX.1 hX.2.1 (q_dec hp) rfl (q_L_at hL hl) (k ls hL)
theorem L_astore_n {l : Launch} {D : va_G} {dA : Nat → ClassId} {kv : Nat → Value} {N0 : Nat} {p : Program} {e : Env} {s : State} {m : MethodId} {args : Array Value} {below : List Frame} {meth : Method} {co : Code} {R : Room} {Q : State → Prop} (hX : q_XL D dA kv N0 p s m args co) {pc : Nat} {ll : List (Option Value)} {st : List Value} {M : qM}  {i : Fin 4} {x : Value} (hp : q_pg 161 pc = some (.astore_n i, 1)) (hr : q_isr x = true) (hi : (i : Nat) < ll.length) (g : q_LW l D dA kv N0 p e s m args below meth co R Q (pc + 1, q_s1 ll (i : Nat) x, st, M)) : q_LW l D dA kv N0 p e s m args below meth co R Q (pc, ll, x :: st, M) := by
  refine L_same g fun H locs ls cells slots hL hW hS k => ?_
  show W p l e R s m args below meth co H locs cells slots Q (F0 m pc ls (q_cv N0 kv x :: st.map (q_cv N0 kv)))
  have k3 : ∀ ls2 : Array Slot, lv_has ls2 (q_ml 161) (((i : Nat), q_cv N0 kv x) :: (q_as (q_cv N0 kv) 0 ll).filter (fun q => !(q.1 == (i : Nat)) && !(q.1 + 1 == (i : Nat) && q.2.category == 2))) → W p l e R s m args below meth co H locs cells slots Q (F0 m (pc + 1) ls2 (st.map (q_cv N0 kv))) := fun ls2 h2 => k ls2 (q_L_s1 (q_cv_cat hX.2.2.2.2.2.2.1.2.2.2.1) hL.1 h2)
  have hi2 : (i : Nat) < q_ml 161 := by rw [← hL.1]; exact hi
  rcases q_cv_rf (N0 := N0) hX.2.2.2.2.2.2.1.2.2.2.1 (q_isr_or hr) with h2 | ⟨a, h2⟩
  · rw [h2] at k3 ⊢; exact lv_astore_nN hX.1 hX.2.1 (q_dec hp) rfl hL.2 hi2 rfl k3
  · rw [h2] at k3 ⊢; exact lv_astore_n hX.1 hX.2.1 (q_dec hp) rfl hL.2 hi2 rfl k3
theorem L_istore_n {l : Launch} {D : va_G} {dA : Nat → ClassId} {kv : Nat → Value} {N0 : Nat} {p : Program} {e : Env} {s : State} {m : MethodId} {args : Array Value} {below : List Frame} {meth : Method} {co : Code} {R : Room} {Q : State → Prop} (hX : q_XL D dA kv N0 p s m args co) {pc : Nat} {ll : List (Option Value)} {st : List Value} {M : qM}  {i : Fin 4} {x : Int32} (hp : q_pg 161 pc = some (.istore_n i, 1)) (hi : (i : Nat) < ll.length) (g : q_LW l D dA kv N0 p e s m args below meth co R Q (pc + 1, q_s1 ll (i : Nat) (.int x), st, M)) : q_LW l D dA kv N0 p e s m args below meth co R Q (pc, ll, .int x :: st, M) :=
  L_same g fun H locs ls cells slots hL hW hS k => lv_istore_n hX.1 hX.2.1 (q_dec hp) rfl hL.2 (by rw [← hL.1]; exact hi) rfl (fun ls2 h2 => k ls2 (q_L_s1 (q_cv_cat hX.2.2.2.2.2.2.1.2.2.2.1) hL.1 h2))
theorem L_iinc {l : Launch} {D : va_G} {dA : Nat → ClassId} {kv : Nat → Value} {N0 : Nat} {p : Program} {e : Env} {s : State} {m : MethodId} {args : Array Value} {below : List Frame} {meth : Method} {co : Code} {R : Room} {Q : State → Prop} (hX : q_XL D dA kv N0 p s m args co) {pc : Nat} {ll : List (Option Value)} {st : List Value} {M : qM}  {i : Nat} {n : Int} {x : Int32} (hp : q_pg 161 pc = some (.iinc i n, 3)) (hl : ll[i]? = some (some (.int x))) (g : q_LW l D dA kv N0 p e s m args below meth co R Q (pc + 3, q_s1 ll i (.int (x + Int32.ofInt n)), st, M)) : q_LW l D dA kv N0 p e s m args below meth co R Q (pc, ll, st, M) := by
  refine L_same g fun H locs ls cells slots hL hW hS k => ?_
  obtain ⟨k0, hk0⟩ := q_as_at (cv := q_cv N0 kv) hl
  exact lv_iinc hX.1 hX.2.1 (q_dec hp) hL.2 (k := k0) hk0 rfl (by rw [← hL.1]; exact (List.getElem?_eq_some_iff.mp hl).1) rfl (fun ls2 h2 => k ls2 (q_L_s1 (q_cv_cat hX.2.2.2.2.2.2.1.2.2.2.1) hL.1 h2))
theorem L_dup {l : Launch} {D : va_G} {dA : Nat → ClassId} {kv : Nat → Value} {N0 : Nat} {p : Program} {e : Env} {s : State} {m : MethodId} {args : Array Value} {below : List Frame} {meth : Method} {co : Code} {R : Room} {Q : State → Prop} (hX : q_XL D dA kv N0 p s m args co) {pc : Nat} {ll : List (Option Value)} {st : List Value} {M : qM}  {a : Value} (hp : q_pg 161 pc = some (.dup, 1)) (hc : a.category = 1) (g : q_LW l D dA kv N0 p e s m args below meth co R Q (pc + 1, ll, a :: a :: st, M)) : q_LW l D dA kv N0 p e s m args below meth co R Q (pc, ll, a :: st, M) :=
  L_same g fun H locs ls cells slots hL hW hS k => lv_dup hX.1 hX.2.1 (q_dec hp) (by rw [q_cv_cat hX.2.2.2.2.2.2.1.2.2.2.1]; exact hc) (k ls hL)
theorem L_goto {l : Launch} {D : va_G} {dA : Nat → ClassId} {kv : Nat → Value} {N0 : Nat} {p : Program} {e : Env} {s : State} {m : MethodId} {args : Array Value} {below : List Frame} {meth : Method} {co : Code} {R : Room} {Q : State → Prop} (hX : q_XL D dA kv N0 p s m args co) {pc : Nat} {ll : List (Option Value)} {st : List Value} {M : qM}  {off : Int} (tgt : Nat) (hp : q_pg 161 pc = some (.goto off, 3)) (ht : (pc : Int) + off = (tgt : Int)) (g : q_LW l D dA kv N0 p e s m args below meth co R Q (tgt, ll, st, M)) : q_LW l D dA kv N0 p e s m args below meth co R Q (pc, ll, st, M) :=
  L_same g fun H locs ls cells slots hL hW hS k => lv_goto hX.1 hX.2.1 (q_dec hp) ht (k ls hL)
theorem L_tsIn {l : Launch} {D : va_G} {dA : Nat → ClassId} {kv : Nat → Value} {N0 : Nat} {p : Program} {e : Env} {s : State} {m : MethodId} {args : Array Value} {below : List Frame} {meth : Method} {co : Code} {R : Room} {Q : State → Prop} (hX : q_XL D dA kv N0 p s m args co) {pc : Nat} {ll : List (Option Value)} {st : List Value} {M : qM}  {dflt lo hi : Int} {offs : Array Int} {len : Nat} {x : Int32} {off : Int} (tgt : Nat) (hp : q_pg 161 pc = some (.tableswitch dflt lo hi offs, len)) (h1 : ¬ x.toInt < lo) (h2 : ¬ hi < x.toInt) (ho : offs[(x.toInt - lo).toNat]? = some off) (ht : (pc : Int) + off = (tgt : Int)) (g : q_LW l D dA kv N0 p e s m args below meth co R Q (tgt, ll, st, M)) : q_LW l D dA kv N0 p e s m args below meth co R Q (pc, ll, .int x :: st, M) :=
  L_same g fun H locs ls cells slots hL hW hS k => lv_tableIn hX.1 hX.2.1 (q_dec hp) h1 h2 ho ht (k ls hL)
theorem L_tsOut {l : Launch} {D : va_G} {dA : Nat → ClassId} {kv : Nat → Value} {N0 : Nat} {p : Program} {e : Env} {s : State} {m : MethodId} {args : Array Value} {below : List Frame} {meth : Method} {co : Code} {R : Room} {Q : State → Prop} (hX : q_XL D dA kv N0 p s m args co) {pc : Nat} {ll : List (Option Value)} {st : List Value} {M : qM}  {dflt lo hi : Int} {offs : Array Int} {len : Nat} {x : Int32} (tgt : Nat) (hp : q_pg 161 pc = some (.tableswitch dflt lo hi offs, len)) (h : x.toInt < lo ∨ hi < x.toInt) (ht : (pc : Int) + dflt = (tgt : Int)) (g : q_LW l D dA kv N0 p e s m args below meth co R Q (tgt, ll, st, M)) : q_LW l D dA kv N0 p e s m args below meth co R Q (pc, ll, .int x :: st, M) :=
  L_same g fun H locs ls cells slots hL hW hS k => lv_tableOut hX.1 hX.2.1 (q_dec hp) h ht (k ls hL)
theorem L_ldc2 {l : Launch} {D : va_G} {dA : Nat → ClassId} {kv : Nat → Value} {N0 : Nat} {p : Program} {e : Env} {s : State} {m : MethodId} {args : Array Value} {below : List Frame} {meth : Method} {co : Code} {R : Room} {Q : State → Prop} (hX : q_XL D dA kv N0 p s m args co) {pc : Nat} {ll : List (Option Value)} {st : List Value} {M : qM}  {idx : Nat} {x : Int64} (hp : q_pg 161 pc = some (.ldc2_w idx, 3)) (hc : q_ct (q_on 161) idx = some (.long x)) (g : q_LW l D dA kv N0 p e s m args below meth co R Q (pc + 3, ll, .long x :: st, M)) : q_LW l D dA kv N0 p e s m args below meth co R Q (pc, ll, st, M) :=
  L_same g fun H locs ls cells slots hL hW hS k => lv_ldc2 hX.1 hX.2.1 hX.2.2.2.1 (hX.2.2.2.2.1 _ (q_ctl (q_on1 (q_ylt hp)).1 hc)) (q_dec hp) (k ls hL)
theorem L_icmp_eq {l : Launch} {D : va_G} {dA : Nat → ClassId} {kv : Nat → Value} {N0 : Nat} {p : Program} {e : Env} {s : State} {m : MethodId} {args : Array Value} {below : List Frame} {meth : Method} {co : Code} {R : Room} {Q : State → Prop} (hX : q_XL D dA kv N0 p s m args co) {pc : Nat} {ll : List (Option Value)} {st : List Value} {M : qM}  {off : Int} {a b : Int32} (tgt : Nat) (hp : q_pg 161 pc = some (.if_icmp .eq off, 3)) (ht : (pc : Int) + off = (tgt : Int)) (gt : a = b → q_LW l D dA kv N0 p e s m args below meth co R Q (tgt, ll, st, M)) (gf : ¬ a = b → q_LW l D dA kv N0 p e s m args below meth co R Q (pc + 3, ll, st, M)) : q_LW l D dA kv N0 p e s m args below meth co R Q (pc, ll, .int b :: .int a :: st, M) := by
  intro H locs ls hL hW hS
  have hn : 0 ≤ q_n M := Nat.zero_le _
  exact lv_icmp_eq hX.1 hX.2.1 (q_dec hp) ht (fun h => gt h H locs ls hL hW hS) (fun h => gf h H locs ls hL hW hS)
theorem L_icmp_gt {l : Launch} {D : va_G} {dA : Nat → ClassId} {kv : Nat → Value} {N0 : Nat} {p : Program} {e : Env} {s : State} {m : MethodId} {args : Array Value} {below : List Frame} {meth : Method} {co : Code} {R : Room} {Q : State → Prop} (hX : q_XL D dA kv N0 p s m args co) {pc : Nat} {ll : List (Option Value)} {st : List Value} {M : qM}  {off : Int} {a b : Int32} (tgt : Nat) (hp : q_pg 161 pc = some (.if_icmp .gt off, 3)) (ht : (pc : Int) + off = (tgt : Int)) (gt : b < a → q_LW l D dA kv N0 p e s m args below meth co R Q (tgt, ll, st, M)) (gf : ¬ (b < a) → q_LW l D dA kv N0 p e s m args below meth co R Q (pc + 3, ll, st, M)) : q_LW l D dA kv N0 p e s m args below meth co R Q (pc, ll, .int b :: .int a :: st, M) := by
  intro H locs ls hL hW hS
  have hn : 0 ≤ q_n M := Nat.zero_le _
  exact lv_icmp_gt hX.1 hX.2.1 (q_dec hp) ht (fun h => gt h H locs ls hL hW hS) (fun h => gf h H locs ls hL hW hS)
theorem L_new {l : Launch} {D : va_G} {dA : Nat → ClassId} {kv : Nat → Value} {N0 : Nat} {p : Program} {e : Env} {s : State} {m : MethodId} {args : Array Value} {below : List Frame} {meth : Method} {co : Code} {R : Room} {Q : State → Prop} (hX : q_XL D dA kv N0 p s m args co) {pc : Nat} {ll : List (Option Value)} {st : List Value} {M : qM} {M' : qM} (hC : q_n M' - 0 ≤ R.cells ∧ q_sl (q_n M') - q_sl 0 ≤ R.slots) {idx ci : Nat} (hp : q_pg 161 pc = some (.new idx, 3)) (hw : q_nw (q_on 161) idx = some ci) (hs : q_SH (q_n M) = some (.inl ci)) (hle : q_n M + 1 ≤ q_n M') (g : q_LW l D dA kv N0 p e s m args below meth co R Q (pc + 3, ll, .ref (q_n M) :: st, q_al M)) : q_LW l D dA kv N0 p e s m args below meth co R Q (pc, ll, st, M) := by
  intro H locs ls hL hW hS
  have hn : 0 ≤ q_n M := Nat.zero_le _
  obtain ⟨hc, hm1, hm2, hm3⟩ := q_nw1 (q_on1 (q_ylt hp)).1 hw
  have hts := hX.2.2.2.2.1
  have hK := hX.2.2.2.2.2.2.1.1
  have hKn := hK.1 ci _ (q_clk ci hc)
  have hz : q_sz (q_n M) = q_nf ci := by unfold q_sz; rw [hs]
  refine W.newcK hX.1 hX.2.1 hX.2.2.2.1 (hts _ hm1) (hts _ hm2) (hts _ hm3) rfl (q_dec hp) (q_room hn hle hC.1) (q_roomS hn hle hC.2 hz) hKn.2.1 rfl fun H1 kC hkC e1 z1 o1 => ?_
  have hW1 : q_W D dA N0 (q_al M) H1 := by
    refine q_W_new hW z1 o1 ?_
    unfold q_at
    rw [hs]
    have e1' : H1[N0 + q_n M]? = some (blank (D.1 ci) kC) := by rw [← hW.1]; exact e1
    refine t_OB.to (u_born (q_fty ci) hts (q_lay hc) hKn hkC e1' (q_ftyk hc)) (fun k hk => ?_)
    rw [q_fv_new]
    exact of_decide_eq_true (List.all_eq_true.mp (List.all_eq_true.mp q_fdv0 ci (List.mem_range.mpr hc)) k (List.mem_range.mpr hk))
  have k := g H1 locs ls hL hW1 (q_S_new hS z1 o1)
  have hNs : N0 + q_n M = H.size := hW.1.symm
  have k : W p l e R s m args below meth co H1 locs (q_n M + 1 - 0) (q_sl (q_n M + 1) - q_sl 0) Q (F0 m (pc + 3) ls (.ref (N0 + q_n M) :: st.map (q_cv N0 kv))) := k
  rw [hNs] at k
  exact W.cs (q_step_n hn) (q_step_s hn hz) k
theorem L_callV {l : Launch} {D : va_G} {dA : Nat → ClassId} {kv : Nat → Value} {N0 : Nat} {p : Program} {e : Env} {s : State} {m : MethodId} {args : Array Value} {below : List Frame} {meth : Method} {co : Code} {R : Room} {Q : State → Prop} (hX : q_XL D dA kv N0 p s m args co) {pc : Nat} {d : Nat} (hR : d + 1 ≤ R.frames ∧ 36 * (d + 1) ≤ R.locals) {ll : List (Option Value)} {M : qM} {M' : qM} (hC : q_n M' - 0 ≤ R.cells ∧ q_sl (q_n M') - q_sl 0 ≤ R.slots) {idx y2 : Nat} {b ci : Nat} {as rest : List Value} {r1 : Option Value} {M1 : qM} (hp : q_pg 161 pc = some (.invokevirtual idx, 3)) (hc : q_ck (q_on 161) idx = some (0, y2)) (hb : q_SH b = some (.inl ci)) (hbn : b < q_n M) (hci : ci < 10) (hcls : (q_yn y2).cls = q_os ci) (hna : as.length = q_na y2) (hcat : (rest.map Value.category).sum ≤ 8) (hm : GM d y2 (.ref b :: as) M r1 M1) (hle : q_n M1 ≤ q_n M') (g : q_LW l D dA kv N0 p e s m args below meth co R Q (pc + 3, ll, r1.toList ++ rest, M1)) : q_LW l D dA kv N0 p e s m args below meth co R Q (pc, ll, as.reverse ++ .ref b :: rest, M) := by
  intro H locs ls hL hW hS
  have hn : 0 ≤ q_n M := Nat.zero_le _
  have hts := hX.2.2.2.2.1
  have hF := hX.2.2.2.2.2.2.1
  obtain ⟨p1, p2, p3, hw⟩ := q_cl1 (q_on1 (q_ylt hp)).1 hc
  simp only [q_clb, Bool.and_eq_true, decide_eq_true_eq] at hw
  obtain ⟨hy2, hle1, hmet⟩ := hm
  obtain ⟨m1, m2, m3, m4, m5⟩ := q_mt1 hy2
  have hroom : (q_Rm d (q_n M1 - q_n M) (q_sl (q_n M1) - q_sl (q_n M))).frames + 1 ≤ R.frames ∧ 8 + (q_ml y2 + 11) + (q_Rm d (q_n M1 - q_n M) (q_sl (q_n M1) - q_sl (q_n M))).locals ≤ R.locals := by
    have h1 := hR
    refine ⟨h1.1, ?_⟩
    show 8 + (q_ml y2 + 11) + 36 * d ≤ R.locals
    have := h1.2
    omega
  have hGd : GoodIn qTB (q_ws y2) := q_good (fun w h => h) hy2
  have hfix : CallFix p m co (q_cb 161) (q_ml 161) s args qTB (q_os (q_on 161)) := ⟨hX.1, hX.2.1, hX.2.2.1, hX.2.2.2.1, hts⟩
  have hcw : CallW R s args (q_os (q_on 161)) (q_yn y2).cls idx (q_yn y2) (q_cb y2) (q_ml y2) (q_rt y2) (q_ws y2) (q_Rm d (q_n M1 - q_n M) (q_sl (q_n M1) - q_sl (q_n M))) (q_n M1 - q_n M) (q_sl (q_n M1) - q_sl (q_n M)) (q_na y2) :=
    ⟨callB_of (q_na y2) hts hGd rfl rfl rfl (hts _ m2) (hts _ (q_inp_TB hw.2.1.1)) m3 hroom, hts _ (q_inp_TB hw.2.1.2), hts _ (q_inp_TB hw.2.2)⟩
  have hrecv : ∃ cell : Cell, H[N0 + b]? = some cell ∧ cell.vm.isStatics = false ∧ s.vm.findClass (q_yn y2).cls = some cell.cls := by
    obtain ⟨cell, g1, g2, g3, -⟩ := q_at_obj (hW.2 b hbn) hb
    exact ⟨cell, g1, by rw [g3]; rfl, by rw [g2, hcls]; exact (hF.1.1 ci _ (q_clk ci hci)).2.1⟩
  have hstk : (as.reverse ++ .ref b :: rest).map (q_cv N0 kv) = (as.map (q_cv N0 kv)).reverse ++ .ref (N0 + b) :: rest.map (q_cv N0 kv) := by simp [List.map_reverse, q_cv]
  refine q_callW (rest := rest.map (q_cv N0 kv)) (va_runV hfix (hmet l D dA kv N0) hcw ⟨q_blind D dA kv N0 M _, hrecv, q_pre hF hW hS (((.ref b :: as).map (q_cv N0 kv)))⟩ (g := F0 m pc ls ((as.reverse ++ .ref b :: rest).map (q_cv N0 kv))) rfl (by rw [List.length_map]; exact hna) hL.2.1 hstk (lv_room (by rw [q_sumc hF.2.2.2.1]; exact hcat)) (q_dec hp) ⟨q_roomC hn hle1 hle hC.1, q_roomD hn hle1 hle hC.2⟩) hS (fun H1 locs1 hW1 hS1 => ?_)
  have k := g H1 locs1 ls hL hW1 hS1
  have k : W p l e R s m args below meth co H1 locs1 (q_n M1 - 0) (q_sl (q_n M1) - q_sl 0) Q (F0 m (pc + 3) ls ((r1.toList ++ rest).map (q_cv N0 kv))) := k
  rw [← q_map_app] at k
  exact W.cs (q_stepC hn hle1) (q_stepD hn hle1) k
theorem L_callI {l : Launch} {D : va_G} {dA : Nat → ClassId} {kv : Nat → Value} {N0 : Nat} {p : Program} {e : Env} {s : State} {m : MethodId} {args : Array Value} {below : List Frame} {meth : Method} {co : Code} {R : Room} {Q : State → Prop} (hX : q_XL D dA kv N0 p s m args co) {pc : Nat} {d : Nat} (hR : d + 1 ≤ R.frames ∧ 36 * (d + 1) ≤ R.locals) {ll : List (Option Value)} {M : qM} {M' : qM} (hC : q_n M' - 0 ≤ R.cells ∧ q_sl (q_n M') - q_sl 0 ≤ R.slots) {idx y2 : Nat} {b : Nat} {as rest : List Value} {r1 : Option Value} {M1 : qM} (hp : q_pg 161 pc = some (.invokespecial idx, 3)) (hc : q_ck (q_on 161) idx = some (2, y2))  (hna : as.length = q_na y2) (hcat : (rest.map Value.category).sum ≤ 8) (hm : GM d y2 (.ref b :: as) M r1 M1) (hle : q_n M1 ≤ q_n M') (g : q_LW l D dA kv N0 p e s m args below meth co R Q (pc + 3, ll, r1.toList ++ rest, M1)) : q_LW l D dA kv N0 p e s m args below meth co R Q (pc, ll, as.reverse ++ .ref b :: rest, M) := by
  intro H locs ls hL hW hS
  have hn : 0 ≤ q_n M := Nat.zero_le _
  have hts := hX.2.2.2.2.1
  have hF := hX.2.2.2.2.2.2.1
  obtain ⟨p1, p2, p3, hw⟩ := q_cl1 (q_on1 (q_ylt hp)).1 hc
  simp only [q_clb, Bool.and_eq_true, decide_eq_true_eq] at hw
  obtain ⟨hy2, hle1, hmet⟩ := hm
  obtain ⟨m1, m2, m3, m4, m5⟩ := q_mt1 hy2
  have hroom : (q_Rm d (q_n M1 - q_n M) (q_sl (q_n M1) - q_sl (q_n M))).frames + 1 ≤ R.frames ∧ 8 + (q_ml y2 + 11) + (q_Rm d (q_n M1 - q_n M) (q_sl (q_n M1) - q_sl (q_n M))).locals ≤ R.locals := by
    have h1 := hR
    refine ⟨h1.1, ?_⟩
    show 8 + (q_ml y2 + 11) + 36 * d ≤ R.locals
    have := h1.2
    omega
  have hGd : GoodIn qTB (q_ws y2) := q_good (fun w h => h) hy2
  have hfix : CallFix p m co (q_cb 161) (q_ml 161) s args qTB (q_os (q_on 161)) := ⟨hX.1, hX.2.1, hX.2.2.1, hX.2.2.2.1, hts⟩
  have hcw : CallB R s args (q_os (q_on 161)) idx (q_yn y2) (q_cb y2) (q_ml y2) none (q_ws y2) (q_Rm d (q_n M1 - q_n M) (q_sl (q_n M1) - q_sl (q_n M))) (q_n M1 - q_n M) (q_sl (q_n M1) - q_sl (q_n M)) (q_na y2) ∧ (q_yn y2).name = "<init>" ∧ (Cond.instanceMethod (q_yn y2)).before args s = true :=
    ⟨callB_of (q_na y2) hts hGd (by rw [← hw.2.2]; rfl) rfl rfl (hts _ m2) (hts _ (q_inp_TB hw.2.1.1.1)) m3 hroom, hw.2.1.2, hts _ (q_inp_TB hw.2.1.1.2)⟩
  have hstk : (as.reverse ++ .ref b :: rest).map (q_cv N0 kv) = (as.map (q_cv N0 kv)).reverse ++ .ref (N0 + b) :: rest.map (q_cv N0 kv) := by simp [List.map_reverse, q_cv]
  refine q_callW (rest := rest.map (q_cv N0 kv)) (va_runI hfix (hmet l D dA kv N0) hcw ⟨q_blind D dA kv N0 M _, q_pre hF hW hS ((.ref b :: as).map (q_cv N0 kv))⟩ (g := F0 m pc ls ((as.reverse ++ .ref b :: rest).map (q_cv N0 kv))) rfl (by rw [List.length_map]; exact hna) hL.2.1 hstk (lv_room (by rw [q_sumc hF.2.2.2.1]; exact hcat)) (q_dec hp) ⟨q_roomC hn hle1 hle hC.1, q_roomD hn hle1 hle hC.2⟩) hS (fun H1 locs1 hW1 hS1 => ?_)
  have k := g H1 locs1 ls hL hW1 hS1
  have k : W p l e R s m args below meth co H1 locs1 (q_n M1 - 0) (q_sl (q_n M1) - q_sl 0) Q (F0 m (pc + 3) ls ((r1.toList ++ rest).map (q_cv N0 kv))) := k
  rw [← q_map_app] at k
  exact W.cs (q_stepC hn hle1) (q_stepD hn hle1) k
theorem L_sald {l : Launch} {D : va_G} {dA : Nat → ClassId} {kv : Nat → Value} {N0 : Nat} {p : Program} {e : Env} {s : State} {m : MethodId} {args : Array Value} {below : List Frame} {meth : Method} {co : Code} {R : Room} {Q : State → Prop} (hX : q_XL D dA kv N0 p s m args co) {pc : Nat} {ll : List (Option Value)} {st : List Value} {M : qM} {b L : Nat} {xs : Nat → Int32} {i : Int32} (hk : kv 14 = .ref b) (hv : va_X b L xs s s.heap) (hb : b < N0) (hp : q_pg 161 pc = some (.iaload, 1)) (hin : vp_in i L) (g : q_LW l D dA kv N0 p e s m args below meth co R Q (pc + 1, ll, .int (xs i.toNatClampNeg) :: st, M)) : q_LW l D dA kv N0 p e s m args below meth co R Q (pc, ll, .int i :: .float 14 :: st, M) := by
  refine L_same g fun H locs ls cells slots hL hW hS k => ?_
  show W p l e R s m args below meth co H locs cells slots Q (F0 m pc ls (.int i :: kv 14 :: st.map (q_cv N0 kv)))
  rw [hk]
  exact va_sld hX.1 hX.2.1 hv (Nat.lt_of_lt_of_le hb hX.2.2.2.2.2.2.2) (Nat.not_le.mpr hb) hS hin (q_dec hp) (k ls hL)
theorem L_slen {l : Launch} {D : va_G} {dA : Nat → ClassId} {kv : Nat → Value} {N0 : Nat} {p : Program} {e : Env} {s : State} {m : MethodId} {args : Array Value} {below : List Frame} {meth : Method} {co : Code} {R : Room} {Q : State → Prop} (hX : q_XL D dA kv N0 p s m args co) {pc : Nat} {ll : List (Option Value)} {st : List Value} {M : qM} {b L : Nat} {xs : Nat → Int32} (hk : kv 14 = .ref b) (hv : va_X b L xs s s.heap) (hb : b < N0) (hp : q_pg 161 pc = some (.arraylength, 1)) (g : q_LW l D dA kv N0 p e s m args below meth co R Q (pc + 1, ll, .int (nI L) :: st, M)) : q_LW l D dA kv N0 p e s m args below meth co R Q (pc, ll, .float 14 :: st, M) := by
  refine L_same g fun H locs ls cells slots hL hW hS k => ?_
  show W p l e R s m args below meth co H locs cells slots Q (F0 m pc ls (kv 14 :: st.map (q_cv N0 kv)))
  rw [hk]
  exact va_slen hX.1 hX.2.1 hv (Nat.lt_of_lt_of_le hb hX.2.2.2.2.2.2.2) (Nat.not_le.mpr hb) hS (q_dec hp) (k ls hL)
theorem L_nm {l : Launch} {D : va_G} {dA : Nat → ClassId} {kv : Nat → Value} {N0 : Nat} {p : Program} {e : Env} {s : State} {m : MethodId} {args : Array Value} {below : List Frame} {meth : Method} {co : Code} {R : Room} {Q : State → Prop} {c : qC} (c2 : qC) (h : c = c2) (g : q_LW l D dA kv N0 p e s m args below meth co R Q c2) : q_LW l D dA kv N0 p e s m args below meth co R Q c := h ▸ g
