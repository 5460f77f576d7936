def q_chk (cb : ByteArray) (o : Option (Instr × Nat)) (pc : Nat) : Bool := match o with | none => true | some v => decide (decode cb pc = .ok v)
theorem q_chk_some {cb : ByteArray} {v : Instr × Nat} {pc : Nat} (h : q_chk cb (some v) pc = true) : decode cb pc = .ok v := of_decide_eq_true h
def q_chy (y : Nat) : Bool := (List.range (q_len y)).all (fun pc => q_chk (q_cb y) (q_pg y pc) pc)
theorem q_dc0 : (List.range' 0 22).all q_chy = true := by decide +kernel
theorem q_dc1 : (List.range' 22 14).all q_chy = true := by decide +kernel
theorem q_dc2 : (List.range' 36 13).all q_chy = true := by decide +kernel
theorem q_dc3 : (List.range' 49 19).all q_chy = true := by decide +kernel
theorem q_dc4 : (List.range' 68 12).all q_chy = true := by decide +kernel
theorem q_dc5 : (List.range' 80 14).all q_chy = true := by decide +kernel
theorem q_dc6 : (List.range' 94 6).all q_chy = true := by decide +kernel
theorem q_dc7 : (List.range' 100 9).all q_chy = true := by decide +kernel
theorem q_dc8 : (List.range' 109 10).all q_chy = true := by decide +kernel
theorem q_dc9 : (List.range' 119 8).all q_chy = true := by decide +kernel
theorem q_dc10 : (List.range' 127 6).all q_chy = true := by decide +kernel
theorem q_dc11 : (List.range' 133 9).all q_chy = true := by decide +kernel
theorem q_dc12 : (List.range' 142 16).all q_chy = true := by decide +kernel
theorem q_dc13 : (List.range' 158 3).all q_chy = true := by decide +kernel
def q_il : Instr → Nat
  | .iload _ => 2 | .lload _ => 2 | .aload _ => 2 | .istore _ => 2 | .lstore _ => 2 | .astore _ => 2 | .bipush _ => 2 | .ldc _ => 2 | .newarray _ => 2
  | .sipush _ => 3 | .getfield _ => 3 | .putfield _ => 3 | .getstatic _ => 3 | .ldc2_w _ => 3 | .iinc _ _ => 3 | .goto _ => 3 | .ifCond _ _ => 3 | .if_icmp _ _ => 3 | .ifnull _ => 3 | .ifnonnull _ => 3 | .new _ => 3 | .anewarray _ => 3 | .invokevirtual _ => 3 | .invokespecial _ => 3 | .invokestatic _ => 3
  | .tableswitch _ _ _ _ => 0 | .lookupswitch _ _ => 0 | _ => 1
def q_ilb (o : Option (Instr × Nat)) : Bool := match o with | none => true | some (i, n) => Nat.beq (q_il i) 0 || Nat.beq (q_il i) n
theorem q_ila : (List.range 162).all (fun y => (List.range (q_len y)).all (fun pc => q_ilb (q_pg y pc))) = true := by decide +kernel
theorem q_dcr {a n y : Nat} (h : (List.range' a n).all q_chy = true) (h1 : a ≤ y) (h2 : y < a + n) : q_chy y = true := List.all_eq_true.mp h y (List.mem_range'_1.mpr ⟨h1, h2⟩)
theorem q_dcy {y : Nat} (h : y < 161) : q_chy y = true := by
  by_cases h0 : y < 22
  · exact q_dcr q_dc0 (by omega) (by omega)
  by_cases h1 : y < 36
  · exact q_dcr q_dc1 (by omega) (by omega)
  by_cases h2 : y < 49
  · exact q_dcr q_dc2 (by omega) (by omega)
  by_cases h3 : y < 68
  · exact q_dcr q_dc3 (by omega) (by omega)
  by_cases h4 : y < 80
  · exact q_dcr q_dc4 (by omega) (by omega)
  by_cases h5 : y < 94
  · exact q_dcr q_dc5 (by omega) (by omega)
  by_cases h6 : y < 100
  · exact q_dcr q_dc6 (by omega) (by omega)
  by_cases h7 : y < 109
  · exact q_dcr q_dc7 (by omega) (by omega)
  by_cases h8 : y < 119
  · exact q_dcr q_dc8 (by omega) (by omega)
  by_cases h9 : y < 127
  · exact q_dcr q_dc9 (by omega) (by omega)
  by_cases h10 : y < 133
  · exact q_dcr q_dc10 (by omega) (by omega)
  by_cases h11 : y < 142
  · exact q_dcr q_dc11 (by omega) (by omega)
  by_cases h12 : y < 158
  · exact q_dcr q_dc12 (by omega) (by omega)
  exact q_dcr q_dc13 (by omega) (by omega)
theorem q_ylt {y pc : Nat} {v : Instr × Nat} (h : q_pg y pc = some v) : y < 162 := by
  refine Nat.lt_of_not_le fun q => ?_
  rw [q_pg, Nat.ble_eq_true_of_le q] at h
  cases h
theorem q_pgu {y pc : Nat} (h : y < 162) : q_pg y pc = cond (Nat.ble (q_len y) pc) none (q_pgt y pc) := by
  unfold q_pg
  cases hb : Nat.ble 162 y with
  | true => exact absurd (Nat.le_of_ble_eq_true hb) (by omega)
  | false => rfl
theorem q_dlt {y pc : Nat} {v : Instr × Nat} (h : q_pg y pc = some v) : pc < q_len y := by
  refine Nat.lt_of_not_le fun q => ?_
  rw [q_pgu (q_ylt h), Nat.ble_eq_true_of_le q] at h
  cases h
theorem q_ilen {y pc n : Nat} {i : Instr} (h : q_pg y pc = some (i, n)) (h0 : ¬ q_il i = 0) : n = q_il i := by
  have h1 := List.all_eq_true.mp (List.all_eq_true.mp q_ila y (List.mem_range.mpr (q_ylt h))) pc (List.mem_range.mpr (q_dlt h))
  rw [h] at h1
  have h2 : (Nat.beq (q_il i) 0 || Nat.beq (q_il i) n) = true := h1
  rw [Bool.or_eq_true] at h2
  rcases h2 with h2 | h2
  · exact absurd (Nat.eq_of_beq_eq_true h2) h0
  · exact (Nat.eq_of_beq_eq_true h2).symm
theorem q_decA {y pc : Nat} {v : Instr × Nat} (hy : y < 161) (h : q_pg y pc = some v) : decode (q_cb y) pc = .ok v := by
  have h3 := List.all_eq_true.mp (q_dcy hy) pc (List.mem_range.mpr (q_dlt h))
  rw [h] at h3
  exact q_chk_some h3
