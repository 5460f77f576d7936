/-! ===== plain instructions as a function; blocks of them ===== -/
def q_isI : Value → Bool
  | .int _ => true
  | _ => false
def q_isJ : Value → Bool
  | .long _ => true
  | _ => false
def q_eL (k : Nat) (c : qC) (i : Nat) (ok : Value → Bool) : Option qC := match c.2.1[i]? with
  | some (some v) => cond (ok v) (some (c.1 + k, c.2.1, v :: c.2.2.1, c.2.2.2)) none
  | _ => none
def q_eS (k : Nat) (c : qC) (i : Nat) (ok : Value → Bool) : Option qC := match c.2.2.1 with
  | v :: st => cond (ok v && Nat.ble (i + 1) c.2.1.length) (some (c.1 + k, q_s1 c.2.1 i v, st, c.2.2.2)) none
  | [] => none
def q_eT (k : Nat) (c : qC) (i : Nat) : Option qC := match c.2.2.1 with
  | v :: st => cond (q_isJ v && Nat.ble (i + 2) c.2.1.length) (some (c.1 + k, q_s2 c.2.1 i v, st, c.2.2.2)) none
  | [] => none
def q_e2 (c : qC) (f : Int32 → Int32 → Int32) : Option qC := match c.2.2.1 with
  | .int b :: .int a :: st => some (c.1 + 1, c.2.1, .int (f a b) :: st, c.2.2.2)
  | _ => none
def q_e2L (c : qC) (f : Int64 → Int64 → Int64) : Option qC := match c.2.2.1 with
  | .long b :: .long a :: st => some (c.1 + 1, c.2.1, .long (f a b) :: st, c.2.2.2)
  | _ => none
def q_eSh (c : qC) (f : Int64 → Int32 → Int64) : Option qC := match c.2.2.1 with
  | .int b :: .long a :: st => some (c.1 + 1, c.2.1, .long (f a b) :: st, c.2.2.2)
  | _ => none
def q_eI (c : qC) (f : Int32 → Value) : Option qC := match c.2.2.1 with
  | .int a :: st => some (c.1 + 1, c.2.1, f a :: st, c.2.2.2)
  | _ => none
def q_eJ (c : qC) (f : Int64 → Value) : Option qC := match c.2.2.1 with
  | .long a :: st => some (c.1 + 1, c.2.1, f a :: st, c.2.2.2)
  | _ => none
def q_eC (c : qC) : Option qC := match c.2.2.1 with
  | .long b :: .long a :: st => some (c.1 + 1, c.2.1, .int (lg_cmp a b) :: st, c.2.2.2)
  | _ => none
def q_eD (c : qC) : Option qC := match c.2.2.1 with
  | v :: st => cond (Nat.beq v.category 1) (some (c.1 + 1, c.2.1, v :: v :: st, c.2.2.2)) none
  | _ => none
def q_eP (c : qC) : Option qC := match c.2.2.1 with
  | v :: st => cond (Nat.beq v.category 1) (some (c.1 + 1, c.2.1, st, c.2.2.2)) none
  | _ => none
def q_eD2 (c : qC) : Option qC := match c.2.2.1 with
  | v :: w :: st => cond (Nat.beq v.category 1 && Nat.beq w.category 1) (some (c.1 + 1, c.2.1, v :: w :: v :: w :: st, c.2.2.2)) none
  | _ => none
def q_eG (c : qC) (off : Int) : Option qC := match (c.1 : Int) + off with
  | .ofNat t => some (t, c.2.1, c.2.2.1, c.2.2.2)
  | _ => none
def q_eN (c : qC) (off : Int) (b : Bool) : Option qC := match c.2.2.1 with
  | .ref _ :: st => cond b (q_eG (c.1, c.2.1, st, c.2.2.2) off) (some (c.1 + 3, c.2.1, st, c.2.2.2))
  | .null :: st => cond b (some (c.1 + 3, c.2.1, st, c.2.2.2)) (q_eG (c.1, c.2.1, st, c.2.2.2) off)
  | _ => none
def q_eF (L y : Nat) (c : qC) (idx : Nat) : Option qC := match c.2.2.1 with
  | .ref i :: st => match q_fl (q_on y) idx, q_SH i with
    | some (ci, k), some (.inl cj) => cond (Nat.beq ci cj && Nat.ble (i + 1) L) (some (c.1 + 3, c.2.1, q_av c.2.2.2 i (q_fty ci k) k :: st, c.2.2.2)) none
    | _, _ => none
  | _ => none
def q_eW (L y : Nat) (c : qC) (idx : Nat) : Option qC := match c.2.2.1 with
  | v :: .ref i :: st => match q_fl (q_on y) idx, q_SH i with
    | some (ci, k), some (.inl cj) => cond (Nat.beq ci cj && Nat.ble (i + 1) L && q_pv (q_fty ci k) v && q_pf y ci k) (match q_w c.2.2.2 i (q_fty ci k) k v with | some M1 => some (c.1 + 3, c.2.1, st, M1) | none => none) none
    | _, _ => none
  | _ => none
def q_eA (L : Nat) (c : qC) : Option qC := match c.2.2.1 with
  | .ref i :: st => match q_SH i with
    | some (.inr x) => cond (Nat.ble (i + 1) L && Nat.ble (x.1 + 1) 7) (some (c.1 + 1, c.2.1, .int (Int32.ofNat x.2) :: st, c.2.2.2)) none
    | _ => none
  | _ => none
def q_eK (y : Nat) (c : qC) (idx k : Nat) (ok : Value → Bool) : Option qC := match q_ct (q_on y) idx with
  | some v => cond (ok v) (some (c.1 + k, c.2.1, v :: c.2.2.1, c.2.2.2)) none
  | none => none
def q_eX (c : qC) (i : Nat) (n : Int) : Option qC := match c.2.1[i]? with
  | some (some (.int x)) => some (c.1 + 3, q_s1 c.2.1 i (.int (x + Int32.ofInt n)), c.2.2.1, c.2.2.2)
  | _ => none
def q_ex (L y : Nat) (ins : Instr) (c : qC) : Option qC := match ins with
  | .iconst n => some (c.1 + 1, c.2.1, .int (Int32.ofInt n) :: c.2.2.1, c.2.2.2)
  | .bipush n => some (c.1 + 2, c.2.1, .int (Int8.ofInt n).toInt32 :: c.2.2.1, c.2.2.2)
  | .sipush n => some (c.1 + 3, c.2.1, .int (Int16.ofInt n).toInt32 :: c.2.2.1, c.2.2.2)
  | .lconst n => some (c.1 + 1, c.2.1, .long (Int64.ofNat (n : Nat)) :: c.2.2.1, c.2.2.2)
  | .aconst_null => some (c.1 + 1, c.2.1, .null :: c.2.2.1, c.2.2.2)
  | .iload i => q_eL 2 c i q_isI
  | .iload_n i => q_eL 1 c (i : Nat) q_isI
  | .lload i => q_eL 2 c i q_isJ
  | .lload_n i => q_eL 1 c (i : Nat) q_isJ
  | .aload i => q_eL 2 c i q_isr
  | .aload_n i => q_eL 1 c (i : Nat) q_isr
  | .istore i => q_eS 2 c i q_isI
  | .istore_n i => q_eS 1 c (i : Nat) q_isI
  | .astore i => q_eS 2 c i q_isr
  | .astore_n i => q_eS 1 c (i : Nat) q_isr
  | .lstore i => q_eT 2 c i
  | .lstore_n i => q_eT 1 c (i : Nat)
  | .iinc i n => q_eX c i n
  | .iadd => q_e2 c (fun a b => a + b)
  | .isub => q_e2 c (fun a b => a - b)
  | .imul => q_e2 c (fun a b => a * b)
  | .iand => q_e2 c (fun a b => a &&& b)
  | .ior => q_e2 c (fun a b => a ||| b)
  | .ishl => q_e2 c (fun a b => a <<< (b &&& 31))
  | .ishr => q_e2 c (fun a b => a >>> (b &&& 31))
  | .ladd => q_e2L c (fun a b => a + b)
  | .lsub => q_e2L c (fun a b => a - b)
  | .lmul => q_e2L c (fun a b => a * b)
  | .land => q_e2L c (fun a b => a &&& b)
  | .lor => q_e2L c (fun a b => a ||| b)
  | .lxor => q_e2L c (fun a b => a ^^^ b)
  | .lshl => q_eSh c (fun a b => a <<< (b.toInt64 &&& 63))
  | .lshr => q_eSh c (fun a b => a >>> (b.toInt64 &&& 63))
  | .lushr => q_eSh c (fun a b => (a.toUInt64 >>> (b.toInt64.toUInt64 &&& Int64.toUInt64 63)).toInt64)
  | .i2l => q_eI c (fun a => .long a.toInt64)
  | .i2b => q_eI c (fun a => .int a.toInt8.toInt32)
  | .i2s => q_eI c (fun a => .int a.toInt16.toInt32)
  | .i2c => q_eI c (fun a => .int (a.toUInt32 % 65536).toInt32)
  | .l2i => q_eJ c (fun a => .int a.toInt32)
  | .lcmp => q_eC c
  | .dup => q_eD c
  | .pop => q_eP c
  | .dup2 => q_eD2 c
  | .goto off => q_eG c off
  | .ifnull off => q_eN c off false
  | .ifnonnull off => q_eN c off true
  | .getfield idx => q_eF L y c idx
  | .putfield idx => q_eW L y c idx
  | .arraylength => q_eA L c
  | .ldc idx => q_eK y c idx 2 q_isI
  | .ldc2_w idx => q_eK y c idx 3 q_isJ
  | _ => none
theorem G_eL {d y k i len : Nat} {ins : Instr} {c c2 : qC} {r : Option Value} {M' : qM} {ok : Value → Bool} (hr : ∀ v, ok v = true → c.2.1[i]? = some (some v) → G d y (c.1 + k, c.2.1, v :: c.2.2.1, c.2.2.2) r M' → G d y c r M') (h : q_eL k c i ok = some c2) (g : G d y c2 r M') : G d y c r M' := by
  unfold q_eL at h
  split at h
  · rename_i v hv
    cases ho : ok v with
    | true => rw [ho] at h; cases h; exact hr v ho hv g
    | false => rw [ho] at h; cases h
  · cases h
theorem q_isI_ok {v : Value} (h : q_isI v = true) : ∃ x, v = .int x := by cases v <;> first | exact ⟨_, rfl⟩ | cases h
theorem q_isJ_ok {v : Value} (h : q_isJ v = true) : ∃ x, v = .long x := by cases v <;> first | exact ⟨_, rfl⟩ | cases h
theorem q_bt {b : Bool} {x c2 : qC} (h : cond b (some x) none = some c2) : b = true ∧ x = c2 := by
  cases b with
  | true => exact ⟨rfl, Option.some.inj h⟩
  | false => cases h
theorem q_eG_ok {c c2 : qC} {off : Int} (h : q_eG c off = some c2) : ∃ t : Nat, (c.1 : Int) + off = (t : Int) ∧ c2 = (t, c.2.1, c.2.2.1, c.2.2.2) := by
  unfold q_eG at h
  split at h
  · rename_i t ht
    cases h
    exact ⟨t, ht, rfl⟩
  · cases h
set_option maxHeartbeats 2000000 in
theorem G_ex {L d y len : Nat} {ins : Instr} {c c2 : qC} {r : Option Value} {M' : qM} (hp : q_pg y c.1 = some (ins, len)) (hL : L ≤ q_n c.2.2.2) (h : q_ex L y ins c = some c2) (g : G d y c2 r M') : G d y c r M' := by
  obtain ⟨pc, ll, st, M⟩ := c
  have hlen := q_ilen hp
  have hp : q_pg y pc = some (ins, len) := hp
  have hL : L ≤ q_n M := hL
  unfold q_ex at h
  split at h
  · obtain rfl := hlen (by simp [q_il])
    cases h; exact G_iconst hp g
  · obtain rfl := hlen (by simp [q_il])
    cases h; exact G_bipush hp g
  · obtain rfl := hlen (by simp [q_il])
    cases h; exact G_sipush hp g
  · obtain rfl := hlen (by simp [q_il])
    cases h; exact G_lconst hp g
  · obtain rfl := hlen (by simp [q_il])
    cases h; exact G_null hp g
  · obtain rfl := hlen (by simp [q_il])
    exact G_eL (len := 0) (ins := .iadd) (fun v ho hv g => by obtain ⟨x, rfl⟩ := q_isI_ok ho; exact G_iload hp hv g) h g
  · obtain rfl := hlen (by simp [q_il])
    exact G_eL (len := 0) (ins := .iadd) (fun v ho hv g => by obtain ⟨x, rfl⟩ := q_isI_ok ho; exact G_iload_n hp hv g) h g
  · obtain rfl := hlen (by simp [q_il])
    exact G_eL (len := 0) (ins := .iadd) (fun v ho hv g => by obtain ⟨x, rfl⟩ := q_isJ_ok ho; exact G_lload hp hv g) h g
  · obtain rfl := hlen (by simp [q_il])
    exact G_eL (len := 0) (ins := .iadd) (fun v ho hv g => by obtain ⟨x, rfl⟩ := q_isJ_ok ho; exact G_lload_n hp hv g) h g
  · obtain rfl := hlen (by simp [q_il])
    exact G_eL (len := 0) (ins := .iadd) (fun v ho hv g => G_aload hp hv ho g) h g
  · obtain rfl := hlen (by simp [q_il])
    exact G_eL (len := 0) (ins := .iadd) (fun v ho hv g => G_aload_n hp hv ho g) h g
  · obtain rfl := hlen (by simp [q_il])
    unfold q_eS at h
    cases st with
    | nil => cases h
    | cons v st =>
      obtain ⟨h1, rfl⟩ := q_bt h
      rw [Bool.and_eq_true] at h1
      obtain ⟨x, rfl⟩ := q_isI_ok h1.1
      exact G_istore hp (Nat.le_of_ble_eq_true h1.2) g
  · obtain rfl := hlen (by simp [q_il])
    unfold q_eS at h
    cases st with
    | nil => cases h
    | cons v st =>
      obtain ⟨h1, rfl⟩ := q_bt h
      rw [Bool.and_eq_true] at h1
      obtain ⟨x, rfl⟩ := q_isI_ok h1.1
      exact G_istore_n hp (Nat.le_of_ble_eq_true h1.2) g
  · obtain rfl := hlen (by simp [q_il])
    unfold q_eS at h
    cases st with
    | nil => cases h
    | cons v st =>
      obtain ⟨h1, rfl⟩ := q_bt h
      rw [Bool.and_eq_true] at h1
      exact G_astore hp h1.1 (Nat.le_of_ble_eq_true h1.2) g
  · obtain rfl := hlen (by simp [q_il])
    unfold q_eS at h
    cases st with
    | nil => cases h
    | cons v st =>
      obtain ⟨h1, rfl⟩ := q_bt h
      rw [Bool.and_eq_true] at h1
      exact G_astore_n hp h1.1 (Nat.le_of_ble_eq_true h1.2) g
  · obtain rfl := hlen (by simp [q_il])
    unfold q_eT at h
    cases st with
    | nil => cases h
    | cons v st =>
      obtain ⟨h1, rfl⟩ := q_bt h
      rw [Bool.and_eq_true] at h1
      obtain ⟨x, rfl⟩ := q_isJ_ok h1.1
      exact G_lstore hp (Nat.le_of_ble_eq_true h1.2) g
  · obtain rfl := hlen (by simp [q_il])
    unfold q_eT at h
    cases st with
    | nil => cases h
    | cons v st =>
      obtain ⟨h1, rfl⟩ := q_bt h
      rw [Bool.and_eq_true] at h1
      obtain ⟨x, rfl⟩ := q_isJ_ok h1.1
      exact G_lstore_n hp (Nat.le_of_ble_eq_true h1.2) g
  · obtain rfl := hlen (by simp [q_il])
    unfold q_eX at h
    split at h
    · rename_i x hx
      cases h
      exact G_iinc hp hx g
    · cases h
  · obtain rfl := hlen (by simp [q_il])
    unfold q_e2 at h
    split at h
    · rename_i hst
      cases h
      have hst : st = _ := hst
      subst hst
      exact G_iadd hp g
    · cases h
  · obtain rfl := hlen (by simp [q_il])
    unfold q_e2 at h
    split at h
    · rename_i hst
      cases h
      have hst : st = _ := hst
      subst hst
      exact G_isub hp g
    · cases h
  · obtain rfl := hlen (by simp [q_il])
    unfold q_e2 at h
    split at h
    · rename_i hst
      cases h
      have hst : st = _ := hst
      subst hst
      exact G_imul hp g
    · cases h
  · obtain rfl := hlen (by simp [q_il])
    unfold q_e2 at h
    split at h
    · rename_i hst
      cases h
      have hst : st = _ := hst
      subst hst
      exact G_iand hp g
    · cases h
  · obtain rfl := hlen (by simp [q_il])
    unfold q_e2 at h
    split at h
    · rename_i hst
      cases h
      have hst : st = _ := hst
      subst hst
      exact G_ior hp g
    · cases h
  · obtain rfl := hlen (by simp [q_il])
    unfold q_e2 at h
    split at h
    · rename_i hst
      cases h
      have hst : st = _ := hst
      subst hst
      exact G_ishl hp g
    · cases h
  · obtain rfl := hlen (by simp [q_il])
    unfold q_e2 at h
    split at h
    · rename_i hst
      cases h
      have hst : st = _ := hst
      subst hst
      exact G_ishr hp g
    · cases h
  · obtain rfl := hlen (by simp [q_il])
    unfold q_e2L at h
    split at h
    · rename_i hst
      cases h
      have hst : st = _ := hst
      subst hst
      exact G_ladd hp g
    · cases h
  · obtain rfl := hlen (by simp [q_il])
    unfold q_e2L at h
    split at h
    · rename_i hst
      cases h
      have hst : st = _ := hst
      subst hst
      exact G_lsub hp g
    · cases h
  · obtain rfl := hlen (by simp [q_il])
    unfold q_e2L at h
    split at h
    · rename_i hst
      cases h
      have hst : st = _ := hst
      subst hst
      exact G_lmul hp g
    · cases h
  · obtain rfl := hlen (by simp [q_il])
    unfold q_e2L at h
    split at h
    · rename_i hst
      cases h
      have hst : st = _ := hst
      subst hst
      exact G_land hp g
    · cases h
  · obtain rfl := hlen (by simp [q_il])
    unfold q_e2L at h
    split at h
    · rename_i hst
      cases h
      have hst : st = _ := hst
      subst hst
      exact G_lor hp g
    · cases h
  · obtain rfl := hlen (by simp [q_il])
    unfold q_e2L at h
    split at h
    · rename_i hst
      cases h
      have hst : st = _ := hst
      subst hst
      exact G_lxor hp g
    · cases h
  · obtain rfl := hlen (by simp [q_il])
    unfold q_eSh at h
    split at h
    · rename_i hst
      cases h
      have hst : st = _ := hst
      subst hst
      exact G_lshl hp g
    · cases h
  · obtain rfl := hlen (by simp [q_il])
    unfold q_eSh at h
    split at h
    · rename_i hst
      cases h
      have hst : st = _ := hst
      subst hst
      exact G_lshr hp g
    · cases h
  · obtain rfl := hlen (by simp [q_il])
    unfold q_eSh at h
    split at h
    · rename_i hst
      cases h
      have hst : st = _ := hst
      subst hst
      exact G_lushr hp g
    · cases h
  · obtain rfl := hlen (by simp [q_il])
    unfold q_eI at h
    split at h
    · rename_i hst
      cases h
      have hst : st = _ := hst
      subst hst
      exact G_i2l hp g
    · cases h
  · obtain rfl := hlen (by simp [q_il])
    unfold q_eI at h
    split at h
    · rename_i hst
      cases h
      have hst : st = _ := hst
      subst hst
      exact G_i2b hp g
    · cases h
  · obtain rfl := hlen (by simp [q_il])
    unfold q_eI at h
    split at h
    · rename_i hst
      cases h
      have hst : st = _ := hst
      subst hst
      exact G_i2s hp g
    · cases h
  · obtain rfl := hlen (by simp [q_il])
    unfold q_eI at h
    split at h
    · rename_i hst
      cases h
      have hst : st = _ := hst
      subst hst
      exact G_i2c hp g
    · cases h
  · obtain rfl := hlen (by simp [q_il])
    unfold q_eJ at h
    split at h
    · rename_i hst
      cases h
      have hst : st = _ := hst
      subst hst
      exact G_l2i hp g
    · cases h
  · obtain rfl := hlen (by simp [q_il])
    unfold q_eC at h
    split at h
    · rename_i hst
      cases h
      have hst : st = _ := hst
      subst hst
      exact G_lcmp hp g
    · cases h
  · obtain rfl := hlen (by simp [q_il])
    unfold q_eD at h
    cases st with
    | nil => cases h
    | cons v st =>
      obtain ⟨h1, rfl⟩ := q_bt h
      exact G_dup hp (Nat.eq_of_beq_eq_true h1) g
  · obtain rfl := hlen (by simp [q_il])
    unfold q_eP at h
    cases st with
    | nil => cases h
    | cons v st =>
      obtain ⟨h1, rfl⟩ := q_bt h
      exact G_pop hp (Nat.eq_of_beq_eq_true h1) g
  · obtain rfl := hlen (by simp [q_il])
    unfold q_eD2 at h
    split at h
    · rename_i v w st2 hst
      have hst : st = _ := hst
      subst hst
      obtain ⟨h1, rfl⟩ := q_bt h
      rw [Bool.and_eq_true] at h1
      exact G_dup2 hp (Nat.eq_of_beq_eq_true h1.1) (Nat.eq_of_beq_eq_true h1.2) g
    · cases h
  · obtain rfl := hlen (by simp [q_il])
    obtain ⟨t, h1, rfl⟩ := q_eG_ok h
    exact G_goto t hp h1 g
  · obtain rfl := hlen (by simp [q_il])
    unfold q_eN at h
    split at h
    · rename_i hst
      have hst : st = _ := hst
      subst hst
      cases h
      exact G_ifnull hp g
    · rename_i hst
      have hst : st = _ := hst
      subst hst
      obtain ⟨t, h1, rfl⟩ := q_eG_ok h
      exact G_ifnullN t hp h1 g
    · cases h
  · obtain rfl := hlen (by simp [q_il])
    unfold q_eN at h
    split at h
    · rename_i hst
      have hst : st = _ := hst
      subst hst
      obtain ⟨t, h1, rfl⟩ := q_eG_ok h
      exact G_ifnonnull t hp h1 g
    · rename_i hst
      have hst : st = _ := hst
      subst hst
      cases h
      exact G_ifnonnullN hp g
    · cases h
  · obtain rfl := hlen (by simp [q_il])
    unfold q_eF at h
    split at h
    · rename_i i st2 hst
      have hst : st = _ := hst
      subst hst
      split at h
      · rename_i ci k cj hf hs
        obtain ⟨h1, rfl⟩ := q_bt h
        rw [Bool.and_eq_true] at h1
        have e : ci = cj := Nat.eq_of_beq_eq_true h1.1
        subst e
        exact G_get hp hf hs (Nat.lt_of_lt_of_le (Nat.le_of_ble_eq_true h1.2) hL) g
      · cases h
    · cases h
  · obtain rfl := hlen (by simp [q_il])
    unfold q_eW at h
    split at h
    · rename_i v i st2 hst
      have hst : st = _ := hst
      subst hst
      split at h
      · rename_i ci k cj hf hs
        cases hb : (Nat.beq ci cj && Nat.ble (i + 1) L && q_pv (q_fty ci k) v && q_pf y ci k) with
        | false => rw [hb] at h; cases h
        | true =>
          rw [hb] at h
          simp only [Bool.and_eq_true] at hb
          have e : ci = cj := Nat.eq_of_beq_eq_true hb.1.1.1
          subst e
          have h : (match q_w M i (q_fty ci k) k v with | some M1 => some (pc + 3, ll, st2, M1) | none => none) = some c2 := h
          split at h
          · rename_i M1 hw
            cases h
            exact G_put hp hf hs (Nat.lt_of_lt_of_le (Nat.le_of_ble_eq_true hb.1.1.2) hL) hw hb.1.2 hb.2 g
          · cases h
      · cases h
    · cases h
  · obtain rfl := hlen (by simp [q_il])
    unfold q_eA at h
    split at h
    · rename_i i st2 hst
      have hst : st = _ := hst
      subst hst
      split at h
      · rename_i x hs
        obtain ⟨h1, rfl⟩ := q_bt h
        rw [Bool.and_eq_true] at h1
        exact G_alen (t := x.1) (n := x.2) hp hs (Nat.le_of_ble_eq_true h1.2) (Nat.lt_of_lt_of_le (Nat.le_of_ble_eq_true h1.1) hL) rfl g
      · cases h
    · cases h
  · obtain rfl := hlen (by simp [q_il])
    unfold q_eK at h
    split at h
    · rename_i v hv
      obtain ⟨h1, rfl⟩ := q_bt h
      obtain ⟨x, rfl⟩ := q_isI_ok h1
      exact G_ldc hp hv g
    · cases h
  · obtain rfl := hlen (by simp [q_il])
    unfold q_eK at h
    split at h
    · rename_i v hv
      obtain ⟨h1, rfl⟩ := q_bt h
      obtain ⟨x, rfl⟩ := q_isJ_ok h1
      exact G_ldc2 hp hv g
    · cases h
  · cases h
theorem q_ex_n {L y : Nat} {ins : Instr} {c c2 : qC} (h : q_ex L y ins c = some c2) : q_n c2.2.2.2 = q_n c.2.2.2 := by
  have cb : ∀ {b : Bool} {x : qC}, cond b (some x) none = some c2 → x = c2 := fun h => (q_bt h).2
  have hG : ∀ {c : qC} {off : Int}, q_eG c off = some c2 → q_n c2.2.2.2 = q_n c.2.2.2 := fun h => by obtain ⟨t, -, rfl⟩ := q_eG_ok h; rfl
  unfold q_ex at h
  split at h
  all_goals first
    | (cases h; done)
    | (cases h; rfl; done)
    | (unfold q_eL at h; split at h <;> first | (rw [← cb h]; done) | (cases h; done))
    | (unfold q_eS at h; split at h <;> first | (rw [← cb h]; done) | (cases h; done))
    | (unfold q_eT at h; split at h <;> first | (rw [← cb h]; done) | (cases h; done))
    | (unfold q_eX at h; split at h <;> first | (cases h; rfl; done) | (cases h; done))
    | (unfold q_e2 at h; split at h <;> first | (cases h; rfl; done) | (cases h; done))
    | (unfold q_e2L at h; split at h <;> first | (cases h; rfl; done) | (cases h; done))
    | (unfold q_eSh at h; split at h <;> first | (cases h; rfl; done) | (cases h; done))
    | (unfold q_eI at h; split at h <;> first | (cases h; rfl; done) | (cases h; done))
    | (unfold q_eJ at h; split at h <;> first | (cases h; rfl; done) | (cases h; done))
    | (unfold q_eC at h; split at h <;> first | (cases h; rfl; done) | (cases h; done))
    | (unfold q_eD at h; split at h <;> first | (rw [← cb h]; done) | (cases h; done))
    | (unfold q_eP at h; split at h <;> first | (rw [← cb h]; done) | (cases h; done))
    | (unfold q_eD2 at h; split at h <;> first | (rw [← cb h]; done) | (cases h; done))
    | exact hG h
    | (unfold q_eN at h; simp only [cond_false, cond_true] at h; split at h <;> first | (have h2 := hG h; exact h2) | (cases h; rfl; done) | (cases h; done))
    | (unfold q_eF at h; split at h <;> first | (split at h <;> first | (rw [← cb h]; done) | (cases h; done)) | (cases h; done))
    | (unfold q_eA at h; split at h <;> first | (split at h <;> first | (rw [← cb h]; done) | (cases h; done)) | (cases h; done))
    | (unfold q_eK at h; split at h <;> first | (rw [← cb h]; done) | (cases h; done))
    | skip
  unfold q_eW at h
  split at h
  · split at h
    · rename_i v i st2 hst x1 x2 ci k cj hf hs
      cases hb : (Nat.beq ci cj && Nat.ble (i + 1) L && q_pv (q_fty ci k) v && q_pf y ci k) with
      | false => rw [hb] at h; cases h
      | true =>
        rw [hb] at h
        simp only [cond_true] at h
        split at h
        · rename_i M1 hw
          cases h
          exact q_w_n hw
        · cases h
    · cases h
  · cases h
def q_sN (L : Nat) : Nat → Nat → qC → Option qC
  | 0, _, c => some c
  | k + 1, y, c => match q_pg y c.1 with
    | some x => match q_ex L y x.1 c with
      | some c2 => q_sN L k y c2
      | none => none
    | none => none
theorem G_sN {L d y : Nat} {r : Option Value} {M' : qM} : ∀ (k : Nat) (c c2 : qC), L ≤ q_n c.2.2.2 → q_sN L k y c = some c2 → G d y c2 r M' → G d y c r M'
  | 0, c, c2, _, h, g => by cases h; exact g
  | k + 1, c, c2, hL, h, g => by
    unfold q_sN at h
    split at h
    · rename_i x hx
      split at h
      · rename_i c3 hc
        obtain ⟨ins, len⟩ := x
        exact G_ex hx hL hc (G_sN k c3 c2 (by rw [q_ex_n hc]; exact hL) h g)
      · cases h
    · cases h
/-- a block of k plain instructions -/
theorem G_st {L d y k : Nat} {r : Option Value} {M' : qM} {c : qC} (c2 : qC) (hL : L ≤ q_n c.2.2.2) (h : q_sN L k y c = some c2) (g : G d y c2 r M') : G d y c r M' := G_sN k c c2 hL h g
