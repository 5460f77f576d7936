/-! ===== the stable memory of the system: class and reference, built ===== -/
def q_rf (sw : Bool) (gc : Nat) (i k : Nat) : Option Nat := cond (Nat.ble i 62) (cond (Nat.ble i 15) (cond (Nat.ble i 2) (cond (Nat.ble i 0) (cond (Nat.beq i 0) (cond (Nat.ble k 2) (cond (Nat.ble k 0) (cond (Nat.beq k 0) (some (1)) none) (cond (Nat.ble k 1) (cond (Nat.beq k 1) (some (cond sw 9 4)) none) (cond (Nat.beq k 2) (some (cond sw 4 9)) none))) (cond (Nat.ble k 5) (cond (Nat.ble k 4) (cond (Nat.beq k 4) (some (14)) none) (cond (Nat.beq k 5) (some (46)) none)) (cond (Nat.ble k 10) (cond (Nat.beq k 10) (some (47)) none) (cond (Nat.beq k 14) (some (53)) none)))) none) (cond (Nat.ble i 1) (cond (Nat.beq i 1) (cond (Nat.beq k 0) (some (2)) none) none) (cond (Nat.beq i 2) (cond (Nat.beq k 0) (some (3)) none) none))) (cond (Nat.ble i 9) (cond (Nat.ble i 4) (cond (Nat.beq i 4) (cond (Nat.ble k 1) (cond (Nat.ble k 0) (cond (Nat.beq k 0) (some (5)) none) (cond (Nat.beq k 1) (some (6)) none)) (cond (Nat.ble k 2) (cond (Nat.beq k 2) (some (7)) none) (cond (Nat.beq k 3) (some (8)) none))) none) (cond (Nat.beq i 9) (cond (Nat.ble k 1) (cond (Nat.ble k 0) (cond (Nat.beq k 0) (some (10)) none) (cond (Nat.beq k 1) (some (11)) none)) (cond (Nat.ble k 2) (cond (Nat.beq k 2) (some (12)) none) (cond (Nat.beq k 3) (some (13)) none))) none)) (cond (Nat.ble i 14) (cond (Nat.beq i 14) (cond (Nat.beq k 0) (some (15)) none) none) (cond (Nat.beq i 15) (cond (Nat.ble k 29) (some (k + 16)) none) none)))) (cond (Nat.ble i 54) (cond (Nat.ble i 47) (cond (Nat.ble i 46) (cond (Nat.beq i 46) (cond (Nat.ble (k + 1) gc) (some (2 * k + 89)) none) none) (cond (Nat.beq i 47) (cond (Nat.ble k 1) (cond (Nat.ble k 0) (cond (Nat.beq k 0) (some (48)) none) (cond (Nat.beq k 1) (some (49)) none)) (cond (Nat.ble k 2) (cond (Nat.beq k 2) (some (50)) none) (cond (Nat.ble k 4) (cond (Nat.beq k 4) (some (51)) none) (cond (Nat.beq k 5) (some (52)) none)))) none)) (cond (Nat.ble i 53) (cond (Nat.beq i 53) (cond (Nat.ble k 3) (some (2 * k + 54)) none) none) (cond (Nat.beq i 54) (cond (Nat.beq k 0) (some (55)) none) none))) (cond (Nat.ble i 58) (cond (Nat.ble i 56) (cond (Nat.beq i 56) (cond (Nat.beq k 0) (some (57)) none) none) (cond (Nat.beq i 58) (cond (Nat.beq k 0) (some (59)) none) none)) (cond (Nat.ble i 60) (cond (Nat.beq i 60) (cond (Nat.beq k 0) (some (61)) none) none) (cond (Nat.beq i 62) (cond (Nat.ble k 22) (cond (Nat.ble k 14) (cond (Nat.ble k 10) (cond (Nat.ble k 0) (cond (Nat.beq k 0) (some (63)) none) (cond (Nat.ble k 8) (cond (Nat.beq k 8) (some (64)) none) (cond (Nat.beq k 10) (some (65)) none))) (cond (Nat.ble k 11) (cond (Nat.beq k 11) (some (66)) none) (cond (Nat.ble k 12) (cond (Nat.beq k 12) (some (67)) none) (cond (Nat.beq k 14) (some (68)) none)))) (cond (Nat.ble k 17) (cond (Nat.ble k 15) (cond (Nat.beq k 15) (some (69)) none) (cond (Nat.ble k 16) (cond (Nat.beq k 16) (some (70)) none) (cond (Nat.beq k 17) (some (71)) none))) (cond (Nat.ble k 19) (cond (Nat.ble k 18) (cond (Nat.beq k 18) (some (72)) none) (cond (Nat.beq k 19) (some (73)) none)) (cond (Nat.ble k 21) (cond (Nat.beq k 21) (some (74)) none) (cond (Nat.beq k 22) (some (75)) none))))) (cond (Nat.ble k 28) (cond (Nat.ble k 25) (cond (Nat.ble k 23) (cond (Nat.beq k 23) (some (76)) none) (cond (Nat.ble k 24) (cond (Nat.beq k 24) (some (77)) none) (cond (Nat.beq k 25) (some (78)) none))) (cond (Nat.ble k 26) (cond (Nat.beq k 26) (some (79)) none) (cond (Nat.ble k 27) (cond (Nat.beq k 27) (some (80)) none) (cond (Nat.beq k 28) (some (81)) none)))) (cond (Nat.ble k 35) (cond (Nat.ble k 33) (cond (Nat.beq k 33) (some (82)) none) (cond (Nat.ble k 34) (cond (Nat.beq k 34) (some (83)) none) (cond (Nat.beq k 35) (some (84)) none))) (cond (Nat.ble k 39) (cond (Nat.ble k 38) (cond (Nat.beq k 38) (some (85)) none) (cond (Nat.beq k 39) (some (86)) none)) (cond (Nat.ble k 40) (cond (Nat.beq k 40) (some (87)) none) (cond (Nat.beq k 41) (some (88)) none)))))) none))))) (cond (Nat.ble 89 i && Nat.ble (i + 1) (2 * gc + 89) && Nat.beq (i % 2) 1 && Nat.beq k 0) (some (i + 1)) none)
def qS (sw : Bool) (gc : Nat) (I : Nat → Nat → Int32) (J : Nat → Nat → Int64) : qM := ((2 * gc + 89, q_rf sw gc), (I, J))
theorem q_hn (sw : Bool) (gc : Nat) (I : Nat → Nat → Int32) (J : Nat → Nat → Int64) : 89 ≤ q_n (qS sw gc I J) := Nat.le_add_left _ _
theorem q_lt {sw : Bool} {gc : Nat} {I : Nat → Nat → Int32} {J : Nat → Nat → Int64} {i : Nat} (h : i < 89) : i < q_n (qS sw gc I J) := Nat.lt_of_lt_of_le h (q_hn sw gc I J)
/-- walls -/
theorem q_shW {w : Nat} (h : w < 30) : q_SH (w + 16) = some (.inl 7) := by
  have h1 : (List.range 30).all (fun w => decide (q_SH (w + 16) = some (.inl 7))) = true := by decide +kernel
  exact of_decide_eq_true (List.all_eq_true.mp h1 w (List.mem_range.mpr h))
theorem q_rfW {sw : Bool} {gc w : Nat} (h : w < 30) : q_rf sw gc 15 w = some (w + 16) := by
  show cond (Nat.ble w 29) (some (w + 16)) none = _
  rw [Nat.ble_eq_true_of_le (by omega)]; rfl
theorem q_ltW {sw : Bool} {gc : Nat} {I : Nat → Nat → Int32} {J : Nat → Nat → Int64} {w : Nat} (h : w < 30) : w + 16 < q_n (qS sw gc I J) := q_lt (by omega)
/-- gangs -/
theorem q_shG {k : Nat} (h : k < 8) : q_SH (2 * k + 89) = some (.inl 1) ∧ q_SH (2 * k + 90) = some (.inr (0, 30)) := by
  have h1 : (List.range 8).all (fun k => decide (q_SH (2 * k + 89) = some (.inl 1) ∧ q_SH (2 * k + 90) = some (.inr (0, 30)))) = true := by decide +kernel
  exact of_decide_eq_true (List.all_eq_true.mp h1 k (List.mem_range.mpr h))
theorem q_rfG {sw : Bool} {gc k : Nat} (h : k < gc) : q_rf sw gc 46 k = some (2 * k + 89) := by
  show cond (Nat.ble (k + 1) gc) (some (2 * k + 89)) none = _
  rw [Nat.ble_eq_true_of_le (by omega)]; rfl
theorem q_rfGn {sw : Bool} {gc k : Nat} (h : gc ≤ k) : q_rf sw gc 46 k = none := by
  show cond (Nat.ble (k + 1) gc) (some (2 * k + 89)) none = _
  have : Nat.ble (k + 1) gc = false := by
    cases hb : Nat.ble (k + 1) gc with
    | true => exact absurd (Nat.le_of_ble_eq_true hb) (by omega)
    | false => rfl
  rw [this]; rfl
theorem q_rfA {sw : Bool} {gc k : Nat} (h : k < gc) : q_rf sw gc (2 * k + 89) 0 = some (2 * k + 90) := by
  unfold q_rf
  have h1 : Nat.ble (2 * k + 89) 62 = false := by
    cases hb : Nat.ble (2 * k + 89) 62 with
    | true => exact absurd (Nat.le_of_ble_eq_true hb) (by omega)
    | false => rfl
  have h2 : Nat.ble 89 (2 * k + 89) = true := Nat.ble_eq_true_of_le (by omega)
  have h3 : Nat.ble (2 * k + 89 + 1) (2 * gc + 89) = true := Nat.ble_eq_true_of_le (by omega)
  have h4 : Nat.beq ((2 * k + 89) % 2) 1 = true := by rw [show (2 * k + 89) % 2 = 1 by omega]; rfl
  rw [h1, h2, h3, h4]
  rfl
theorem q_ltG {sw : Bool} {gc : Nat} {I : Nat → Nat → Int32} {J : Nat → Nat → Int64} {k : Nat} (h : k < gc) : 2 * k + 89 < q_n (qS sw gc I J) ∧ 2 * k + 90 < q_n (qS sw gc I J) := by
  show 2 * k + 89 < 2 * gc + 89 ∧ 2 * k + 90 < 2 * gc + 89
  omega
/-- sheets -/
theorem q_shS {k : Nat} (h : k < 4) : q_SH (2 * k + 54) = some (.inl 5) ∧ q_SH (2 * k + 55) = some (.inr (3, 60)) := by
  have h1 : (List.range 4).all (fun k => decide (q_SH (2 * k + 54) = some (.inl 5) ∧ q_SH (2 * k + 55) = some (.inr (3, 60)))) = true := by decide +kernel
  exact of_decide_eq_true (List.all_eq_true.mp h1 k (List.mem_range.mpr h))
theorem q_rfS {sw : Bool} {gc k : Nat} (h : k < 4) : q_rf sw gc 53 k = some (2 * k + 54) ∧ q_rf sw gc (2 * k + 54) 0 = some (2 * k + 55) := by
  rcases (show k = 0 ∨ k = 1 ∨ k = 2 ∨ k = 3 by omega) with rfl | rfl | rfl | rfl <;> exact ⟨rfl, rfl⟩
theorem q_ltS {sw : Bool} {gc : Nat} {I : Nat → Nat → Int32} {J : Nat → Nat → Int64} {k : Nat} (h : k < 4) : 2 * k + 54 < q_n (qS sw gc I J) ∧ 2 * k + 55 < q_n (qS sw gc I J) := ⟨q_lt (by omega), q_lt (by omega)⟩
