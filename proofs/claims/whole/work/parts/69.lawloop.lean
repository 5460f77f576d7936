theorem L_arg {l : Launch} {D : va_G} {dA : Nat → ClassId} {kv : Nat → Value} {N0 : Nat} {p : Program} {e : Env} {s : State} {m : MethodId} {args : Array Value} {below : List Frame} {meth : Method} {co : Code} {R : Room} {Q : State → Prop} (hX : q_XL D dA kv N0 p s m args co) {b L : Nat} {xs : Nat → Int32} (hk : kv 14 = .ref b) (hv : va_X b L xs s s.heap) (hb : b < N0) {pc i j : Nat} {z : Int} {st : List Value} {M : qM} (h0 : q_pg 161 pc = some (.aload_n 0, 1)) (h1 : q_pg 161 (pc + 1) = some (.iload_n 3, 1)) (h2 : q_pg 161 (pc + 2) = some (.iconst z, 1)) (h3 : q_pg 161 (pc + 3) = some (.iadd, 1)) (h4 : q_pg 161 (pc + 4) = some (.iaload, 1)) (hz : Int32.ofInt z = nI j) (hij : i + j < L) (hL : L ≤ 2560) (g : q_LW l D dA kv N0 p e s m args below meth co R Q (pc + 5, [some (.float 14), some (.ref 0), some (.ref 62), some (.int (nI i))], .int (xs (i + j)) :: st, M)) : q_LW l D dA kv N0 p e s m args below meth co R Q (pc, [some (.float 14), some (.ref 0), some (.ref 62), some (.int (nI i))], st, M) := by
  refine L_aload_n hX (x := .float 14) h0 rfl rfl ?_
  refine L_iload_n hX (x := nI i) h1 rfl ?_
  refine L_iconst hX h2 ?_
  refine L_iadd hX h3 ?_
  rw [show nI i + Int32.ofInt z = nI (i + j) from q_addP rfl hz]
  refine L_sald hX hk hv hb h4 (vp_in_nI hij (by omega)) ?_
  rw [q_clamp (show i + j < 2 ^ 31 by omega)]
  exact g
def q_lg (a b : Int32) : Int64 := (a.toInt64 <<< (Int32.toInt64 (Int8.toInt32 (Int8.ofInt 32)) &&& 63)) ||| (b.toInt64 &&& 4294967295)
theorem L_long {l : Launch} {D : va_G} {dA : Nat → ClassId} {kv : Nat → Value} {N0 : Nat} {p : Program} {e : Env} {s : State} {m : MethodId} {args : Array Value} {below : List Frame} {meth : Method} {co : Code} {R : Room} {Q : State → Prop} (hX : q_XL D dA kv N0 p s m args co) {b L : Nat} {xs : Nat → Int32} (hk : kv 14 = .ref b) (hv : va_X b L xs s s.heap) (hb : b < N0) {pc i j : Nat} {z z2 : Int} {st : List Value} {M : qM} (h0 : q_pg 161 pc = some (.aload_n 0, 1)) (h1 : q_pg 161 (pc + 1) = some (.iload_n 3, 1)) (h2 : q_pg 161 (pc + 2) = some (.iconst z, 1)) (h3 : q_pg 161 (pc + 3) = some (.iadd, 1)) (h4 : q_pg 161 (pc + 4) = some (.iaload, 1)) (h5 : q_pg 161 (pc + 5) = some (.i2l, 1)) (h6 : q_pg 161 (pc + 6) = some (.bipush 32, 2)) (h7 : q_pg 161 (pc + 8) = some (.lshl, 1)) (h8 : q_pg 161 (pc + 9) = some (.aload_n 0, 1)) (h9 : q_pg 161 (pc + 10) = some (.iload_n 3, 1)) (h10 : q_pg 161 (pc + 11) = some (.iconst z2, 1)) (h11 : q_pg 161 (pc + 12) = some (.iadd, 1)) (h12 : q_pg 161 (pc + 13) = some (.iaload, 1)) (h13 : q_pg 161 (pc + 14) = some (.i2l, 1)) (h14 : q_pg 161 (pc + 15) = some (.ldc2_w 13, 3)) (h15 : q_pg 161 (pc + 18) = some (.land, 1)) (h16 : q_pg 161 (pc + 19) = some (.lor, 1)) (hz : Int32.ofInt z = nI j) (hz2 : Int32.ofInt z2 = nI (j + 1)) (hij : i + j + 1 < L) (hL : L ≤ 2560) (g : q_LW l D dA kv N0 p e s m args below meth co R Q (pc + 20, [some (.float 14), some (.ref 0), some (.ref 62), some (.int (nI i))], .long (q_lg (xs (i + j)) (xs (i + j + 1))) :: st, M)) : q_LW l D dA kv N0 p e s m args below meth co R Q (pc, [some (.float 14), some (.ref 0), some (.ref 62), some (.int (nI i))], st, M) := by
  refine L_arg hX hk hv hb h0 h1 h2 h3 h4 hz (by omega) hL ?_
  refine L_i2l hX h5 ?_
  refine L_bipush hX h6 ?_
  refine L_lshl hX h7 ?_
  refine L_arg hX hk hv hb (pc := pc + 9) (j := j + 1) h8 h9 h10 h11 h12 hz2 (by omega) hL ?_
  refine L_i2l hX h13 ?_
  refine L_ldc2 hX (x := 4294967295) h14 rfl ?_
  refine L_land hX h15 ?_
  refine L_lor hX h16 ?_
  exact g
theorem q_L5 {L i : Nat} (hL : L ≤ 2560) (hi : i ≤ 3000) (h : L < i + 5) : nI L - 5 < nI i := by
  rcases Nat.lt_or_ge L 5 with h5 | h5
  · have : L = 0 ∨ L = 1 ∨ L = 2 ∨ L = 3 ∨ L = 4 := by omega
    rw [q_lt_int, nI_toInt (n := i) (by omega)]
    rcases this with rfl | rfl | rfl | rfl | rfl
    · have e0 : (nI 0 - 5).toInt = -5 := rfl
      omega
    · have e0 : (nI 1 - 5).toInt = -4 := rfl
      omega
    · have e0 : (nI 2 - 5).toInt = -3 := rfl
      omega
    · have e0 : (nI 3 - 5).toInt = -2 := rfl
      omega
    · have e0 : (nI 4 - 5).toInt = -1 := rfl
      omega
  · rw [show nI L - 5 = nI (L - 5) from q_subP (b := 5) rfl rfl h5]
    exact nI_lt (by omega) (by omega)
theorem L_case0 {l : Launch} {D : va_G} {dA : Nat → ClassId} {kv : Nat → Value} {N0 : Nat} {p : Program} {e : Env} {s : State} {m : MethodId} {args : Array Value} {below : List Frame} {meth : Method} {co : Code} {R : Room} {Q : State → Prop} (hX : q_XL D dA kv N0 p s m args co) {b L : Nat} {xs : Nat → Int32} (hk : kv 14 = .ref b) (hv : va_X b L xs s s.heap) (hb : b < N0) {i : Nat} (hi : i + 5 ≤ L) (hL : L ≤ 2560) (hR : 12 + 1 ≤ R.frames ∧ 36 * (12 + 1) ≤ R.locals) (hC : 105 ≤ R.cells ∧ q_sl 105 ≤ R.slots) (hih : ∀ (sw : Bool) (gc : Nat) (I : Nat → Nat → Int32) (J : Nat → Nat → Int64), s_Rel sw gc I J → q_LW l D dA kv N0 p e s m args below meth co R Q (1029, [some (.float 14), some (.ref 0), some (.ref 62), some (.int (nI i))], [], qS sw gc I J)) {sw : Bool} {gc : Nat} {I : Nat → Nat → Int32} {J : Nat → Nat → Int64} (h : s_Rel sw gc I J) : q_LW l D dA kv N0 p e s m args below meth co R Q (140, [some (.float 14), some (.ref 0), some (.ref 62), some (.int (nI i))], [], qS sw gc I J) := by
  obtain ⟨r, sw2, gc2, I1, J1, I2, J2, hle, g1, g2, hRel⟩ := s_feed (q_lg (xs (i + 1)) (xs (i + 1 + 1))) 0 sw gc I J h
  have h8 := hRel.2.2.2.1.1
  refine L_aload_n hX (x := .ref 0) rfl rfl rfl ?_
  refine L_long hX hk hv hb (pc := 141) (j := 1) rfl rfl rfl rfl rfl rfl rfl rfl rfl rfl rfl rfl rfl rfl rfl rfl rfl rfl rfl (by omega) hL ?_
  refine L_callV hX hR (M' := qS false 8 I J) hC (b := 0) (ci := 8) (as := [.long (q_lg (xs (i + 1)) (xs (i + 1 + 1)))]) (rest := []) rfl rfl rfl (q_lt (by decide)) (by decide) rfl rfl (Nat.le_of_ble_eq_true rfl) g1 (show 2 * gc2 + 89 ≤ 2 * 8 + 89 by omega) ?_
  refine L_nm (164, [some (.float 14), some (.ref 0), some (.ref 62), some (.int (nI i))], [.int r], qS sw2 gc2 I1 J1) rfl ?_
  refine L_aload_n hX (x := .ref 62) rfl rfl rfl ?_
  refine L_long hX hk hv hb (pc := 165) (j := 1) rfl rfl rfl rfl rfl rfl rfl rfl rfl rfl rfl rfl rfl rfl rfl rfl rfl rfl rfl (by omega) hL ?_
  refine L_callV hX hR (M' := qS false 8 I J) hC (b := 62) (ci := 9) (as := [.long (q_lg (xs (i + 1)) (xs (i + 1 + 1)))]) (rest := [.int r]) rfl rfl rfl (q_lt (by decide)) (by decide) rfl rfl (Nat.le_of_ble_eq_true rfl) g2 (show 2 * gc2 + 89 ≤ 2 * 8 + 89 by omega) ?_
  refine L_nm (188, [some (.float 14), some (.ref 0), some (.ref 62), some (.int (nI i))], [.int r, .int r], qS sw2 gc2 I2 J2) rfl ?_
  exact L_icmp_eq hX 1029 rfl rfl (fun _ => hih sw2 gc2 I2 J2 hRel) (fun h9 => absurd rfl h9)
theorem L_case1 {l : Launch} {D : va_G} {dA : Nat → ClassId} {kv : Nat → Value} {N0 : Nat} {p : Program} {e : Env} {s : State} {m : MethodId} {args : Array Value} {below : List Frame} {meth : Method} {co : Code} {R : Room} {Q : State → Prop} (hX : q_XL D dA kv N0 p s m args co) {b L : Nat} {xs : Nat → Int32} (hk : kv 14 = .ref b) (hv : va_X b L xs s s.heap) (hb : b < N0) {i : Nat} (hi : i + 5 ≤ L) (hL : L ≤ 2560) (hR : 12 + 1 ≤ R.frames ∧ 36 * (12 + 1) ≤ R.locals) (hC : 105 ≤ R.cells ∧ q_sl 105 ≤ R.slots) (hih : ∀ (sw : Bool) (gc : Nat) (I : Nat → Nat → Int32) (J : Nat → Nat → Int64), s_Rel sw gc I J → q_LW l D dA kv N0 p e s m args below meth co R Q (1029, [some (.float 14), some (.ref 0), some (.ref 62), some (.int (nI i))], [], qS sw gc I J)) {sw : Bool} {gc : Nat} {I : Nat → Nat → Int32} {J : Nat → Nat → Int64} (h : s_Rel sw gc I J) : q_LW l D dA kv N0 p e s m args below meth co R Q (193, [some (.float 14), some (.ref 0), some (.ref 62), some (.int (nI i))], [], qS sw gc I J) := by
  obtain ⟨r, sw2, gc2, I1, J1, I2, J2, hle, g1, g2, hRel⟩ := s_end (xs (i + 1)) 0 sw gc I J h
  have h8 := hRel.2.2.2.1.1
  refine L_aload_n hX (x := .ref 0) rfl rfl rfl ?_
  refine L_arg hX hk hv hb (pc := 194) (j := 1) rfl rfl rfl rfl rfl rfl (by omega) hL ?_
  refine L_callV hX hR (M' := qS false 8 I J) hC (b := 0) (ci := 8) (as := [.int (xs (i + 1))]) (rest := []) rfl rfl rfl (q_lt (by decide)) (by decide) rfl rfl (Nat.le_of_ble_eq_true rfl) g1 (show 2 * gc2 + 89 ≤ 2 * 8 + 89 by omega) ?_
  refine L_nm (202, [some (.float 14), some (.ref 0), some (.ref 62), some (.int (nI i))], [.int r], qS sw2 gc2 I1 J1) rfl ?_
  refine L_aload_n hX (x := .ref 62) rfl rfl rfl ?_
  refine L_arg hX hk hv hb (pc := 203) (j := 1) rfl rfl rfl rfl rfl rfl (by omega) hL ?_
  refine L_callV hX hR (M' := qS false 8 I J) hC (b := 62) (ci := 9) (as := [.int (xs (i + 1))]) (rest := [.int r]) rfl rfl rfl (q_lt (by decide)) (by decide) rfl rfl (Nat.le_of_ble_eq_true rfl) g2 (show 2 * gc2 + 89 ≤ 2 * 8 + 89 by omega) ?_
  refine L_nm (211, [some (.float 14), some (.ref 0), some (.ref 62), some (.int (nI i))], [.int r, .int r], qS sw2 gc2 I2 J2) rfl ?_
  exact L_icmp_eq hX 1029 rfl rfl (fun _ => hih sw2 gc2 I2 J2 hRel) (fun h9 => absurd rfl h9)
theorem L_case2 {l : Launch} {D : va_G} {dA : Nat → ClassId} {kv : Nat → Value} {N0 : Nat} {p : Program} {e : Env} {s : State} {m : MethodId} {args : Array Value} {below : List Frame} {meth : Method} {co : Code} {R : Room} {Q : State → Prop} (hX : q_XL D dA kv N0 p s m args co) {b L : Nat} {xs : Nat → Int32} (hk : kv 14 = .ref b) (hv : va_X b L xs s s.heap) (hb : b < N0) {i : Nat} (hi : i + 5 ≤ L) (hL : L ≤ 2560) (hR : 12 + 1 ≤ R.frames ∧ 36 * (12 + 1) ≤ R.locals) (hC : 105 ≤ R.cells ∧ q_sl 105 ≤ R.slots) (hih : ∀ (sw : Bool) (gc : Nat) (I : Nat → Nat → Int32) (J : Nat → Nat → Int64), s_Rel sw gc I J → q_LW l D dA kv N0 p e s m args below meth co R Q (1029, [some (.float 14), some (.ref 0), some (.ref 62), some (.int (nI i))], [], qS sw gc I J)) {sw : Bool} {gc : Nat} {I : Nat → Nat → Int32} {J : Nat → Nat → Int64} (h : s_Rel sw gc I J) : q_LW l D dA kv N0 p e s m args below meth co R Q (216, [some (.float 14), some (.ref 0), some (.ref 62), some (.int (nI i))], [], qS sw gc I J) := by
  obtain ⟨r, sw2, gc2, I1, J1, I2, J2, hle, g1, g2, hRel⟩ := s_laws 0 sw gc I J h
  have h8 := hRel.2.2.2.1.1
  refine L_aload_n hX (x := .ref 0) rfl rfl rfl ?_
  refine L_callV hX hR (M' := qS false 8 I J) hC (b := 0) (ci := 8) (as := []) (rest := []) rfl rfl rfl (q_lt (by decide)) (by decide) rfl rfl (Nat.le_of_ble_eq_true rfl) g1 (show 2 * gc2 + 89 ≤ 2 * 8 + 89 by omega) ?_
  refine L_nm (220, [some (.float 14), some (.ref 0), some (.ref 62), some (.int (nI i))], [.int r], qS sw2 gc2 I1 J1) rfl ?_
  refine L_aload_n hX (x := .ref 62) rfl rfl rfl ?_
  refine L_callV hX hR (M' := qS false 8 I J) hC (b := 62) (ci := 9) (as := []) (rest := [.int r]) rfl rfl rfl (q_lt (by decide)) (by decide) rfl rfl (Nat.le_of_ble_eq_true rfl) g2 (show 2 * gc2 + 89 ≤ 2 * 8 + 89 by omega) ?_
  refine L_nm (224, [some (.float 14), some (.ref 0), some (.ref 62), some (.int (nI i))], [.int r, .int r], qS sw2 gc2 I2 J2) rfl ?_
  exact L_icmp_eq hX 1029 rfl rfl (fun _ => hih sw2 gc2 I2 J2 hRel) (fun h9 => absurd rfl h9)
theorem L_case3 {l : Launch} {D : va_G} {dA : Nat → ClassId} {kv : Nat → Value} {N0 : Nat} {p : Program} {e : Env} {s : State} {m : MethodId} {args : Array Value} {below : List Frame} {meth : Method} {co : Code} {R : Room} {Q : State → Prop} (hX : q_XL D dA kv N0 p s m args co) {b L : Nat} {xs : Nat → Int32} (hk : kv 14 = .ref b) (hv : va_X b L xs s s.heap) (hb : b < N0) {i : Nat} (hi : i + 5 ≤ L) (hL : L ≤ 2560) (hR : 12 + 1 ≤ R.frames ∧ 36 * (12 + 1) ≤ R.locals) (hC : 105 ≤ R.cells ∧ q_sl 105 ≤ R.slots) (hih : ∀ (sw : Bool) (gc : Nat) (I : Nat → Nat → Int32) (J : Nat → Nat → Int64), s_Rel sw gc I J → q_LW l D dA kv N0 p e s m args below meth co R Q (1029, [some (.float 14), some (.ref 0), some (.ref 62), some (.int (nI i))], [], qS sw gc I J)) {sw : Bool} {gc : Nat} {I : Nat → Nat → Int32} {J : Nat → Nat → Int64} (h : s_Rel sw gc I J) : q_LW l D dA kv N0 p e s m args below meth co R Q (229, [some (.float 14), some (.ref 0), some (.ref 62), some (.int (nI i))], [], qS sw gc I J) := by
  obtain ⟨r, sw2, gc2, I1, J1, I2, J2, hle, g1, g2, hRel⟩ := s_fault 0 sw gc I J h
  have h8 := hRel.2.2.2.1.1
  refine L_aload_n hX (x := .ref 0) rfl rfl rfl ?_
  refine L_callV hX hR (M' := qS false 8 I J) hC (b := 0) (ci := 8) (as := []) (rest := []) rfl rfl rfl (q_lt (by decide)) (by decide) rfl rfl (Nat.le_of_ble_eq_true rfl) g1 (show 2 * gc2 + 89 ≤ 2 * 8 + 89 by omega) ?_
  refine L_nm (233, [some (.float 14), some (.ref 0), some (.ref 62), some (.int (nI i))], [.int r], qS sw2 gc2 I1 J1) rfl ?_
  refine L_aload_n hX (x := .ref 62) rfl rfl rfl ?_
  refine L_callV hX hR (M' := qS false 8 I J) hC (b := 62) (ci := 9) (as := []) (rest := [.int r]) rfl rfl rfl (q_lt (by decide)) (by decide) rfl rfl (Nat.le_of_ble_eq_true rfl) g2 (show 2 * gc2 + 89 ≤ 2 * 8 + 89 by omega) ?_
  refine L_nm (237, [some (.float 14), some (.ref 0), some (.ref 62), some (.int (nI i))], [.int r, .int r], qS sw2 gc2 I2 J2) rfl ?_
  exact L_icmp_eq hX 1029 rfl rfl (fun _ => hih sw2 gc2 I2 J2 hRel) (fun h9 => absurd rfl h9)
theorem L_case4 {l : Launch} {D : va_G} {dA : Nat → ClassId} {kv : Nat → Value} {N0 : Nat} {p : Program} {e : Env} {s : State} {m : MethodId} {args : Array Value} {below : List Frame} {meth : Method} {co : Code} {R : Room} {Q : State → Prop} (hX : q_XL D dA kv N0 p s m args co) {b L : Nat} {xs : Nat → Int32} (hk : kv 14 = .ref b) (hv : va_X b L xs s s.heap) (hb : b < N0) {i : Nat} (hi : i + 5 ≤ L) (hL : L ≤ 2560) (hR : 12 + 1 ≤ R.frames ∧ 36 * (12 + 1) ≤ R.locals) (hC : 105 ≤ R.cells ∧ q_sl 105 ≤ R.slots) (hih : ∀ (sw : Bool) (gc : Nat) (I : Nat → Nat → Int32) (J : Nat → Nat → Int64), s_Rel sw gc I J → q_LW l D dA kv N0 p e s m args below meth co R Q (1029, [some (.float 14), some (.ref 0), some (.ref 62), some (.int (nI i))], [], qS sw gc I J)) {sw : Bool} {gc : Nat} {I : Nat → Nat → Int32} {J : Nat → Nat → Int64} (h : s_Rel sw gc I J) : q_LW l D dA kv N0 p e s m args below meth co R Q (242, [some (.float 14), some (.ref 0), some (.ref 62), some (.int (nI i))], [], qS sw gc I J) := by
  obtain ⟨r, sw2, gc2, I1, J1, I2, J2, hle, g1, g2, hRel⟩ := s_law (xs (i + 1)) 0 sw gc I J h
  have h8 := hRel.2.2.2.1.1
  refine L_aload_n hX (x := .ref 0) rfl rfl rfl ?_
  refine L_arg hX hk hv hb (pc := 243) (j := 1) rfl rfl rfl rfl rfl rfl (by omega) hL ?_
  refine L_callV hX hR (M' := qS false 8 I J) hC (b := 0) (ci := 8) (as := [.int (xs (i + 1))]) (rest := []) rfl rfl rfl (q_lt (by decide)) (by decide) rfl rfl (Nat.le_of_ble_eq_true rfl) g1 (show 2 * gc2 + 89 ≤ 2 * 8 + 89 by omega) ?_
  refine L_nm (251, [some (.float 14), some (.ref 0), some (.ref 62), some (.int (nI i))], [.int r], qS sw2 gc2 I1 J1) rfl ?_
  refine L_aload_n hX (x := .ref 62) rfl rfl rfl ?_
  refine L_arg hX hk hv hb (pc := 252) (j := 1) rfl rfl rfl rfl rfl rfl (by omega) hL ?_
  refine L_callV hX hR (M' := qS false 8 I J) hC (b := 62) (ci := 9) (as := [.int (xs (i + 1))]) (rest := [.int r]) rfl rfl rfl (q_lt (by decide)) (by decide) rfl rfl (Nat.le_of_ble_eq_true rfl) g2 (show 2 * gc2 + 89 ≤ 2 * 8 + 89 by omega) ?_
  refine L_nm (260, [some (.float 14), some (.ref 0), some (.ref 62), some (.int (nI i))], [.int r, .int r], qS sw2 gc2 I2 J2) rfl ?_
  exact L_icmp_eq hX 1029 rfl rfl (fun _ => hih sw2 gc2 I2 J2 hRel) (fun h9 => absurd rfl h9)
theorem L_case5 {l : Launch} {D : va_G} {dA : Nat → ClassId} {kv : Nat → Value} {N0 : Nat} {p : Program} {e : Env} {s : State} {m : MethodId} {args : Array Value} {below : List Frame} {meth : Method} {co : Code} {R : Room} {Q : State → Prop} (hX : q_XL D dA kv N0 p s m args co) {b L : Nat} {xs : Nat → Int32} (hk : kv 14 = .ref b) (hv : va_X b L xs s s.heap) (hb : b < N0) {i : Nat} (hi : i + 5 ≤ L) (hL : L ≤ 2560) (hR : 12 + 1 ≤ R.frames ∧ 36 * (12 + 1) ≤ R.locals) (hC : 105 ≤ R.cells ∧ q_sl 105 ≤ R.slots) (hih : ∀ (sw : Bool) (gc : Nat) (I : Nat → Nat → Int32) (J : Nat → Nat → Int64), s_Rel sw gc I J → q_LW l D dA kv N0 p e s m args below meth co R Q (1029, [some (.float 14), some (.ref 0), some (.ref 62), some (.int (nI i))], [], qS sw gc I J)) {sw : Bool} {gc : Nat} {I : Nat → Nat → Int32} {J : Nat → Nat → Int64} (h : s_Rel sw gc I J) : q_LW l D dA kv N0 p e s m args below meth co R Q (265, [some (.float 14), some (.ref 0), some (.ref 62), some (.int (nI i))], [], qS sw gc I J) := by
  obtain ⟨r, sw2, gc2, I1, J1, I2, J2, hle, g1, g2, hRel⟩ := s_rock (xs (i + 1)) (xs (i + 2)) (xs (i + 3)) 0 sw gc I J h
  have h8 := hRel.2.2.2.1.1
  refine L_aload_n hX (x := .ref 0) rfl rfl rfl ?_
  refine L_arg hX hk hv hb (pc := 266) (j := 1) rfl rfl rfl rfl rfl rfl (by omega) hL ?_
  refine L_arg hX hk hv hb (pc := 271) (j := 2) rfl rfl rfl rfl rfl rfl (by omega) hL ?_
  refine L_arg hX hk hv hb (pc := 276) (j := 3) rfl rfl rfl rfl rfl rfl (by omega) hL ?_
  refine L_callV hX hR (M' := qS false 8 I J) hC (b := 0) (ci := 8) (as := [.int (xs (i + 1)), .int (xs (i + 2)), .int (xs (i + 3))]) (rest := []) rfl rfl rfl (q_lt (by decide)) (by decide) rfl rfl (Nat.le_of_ble_eq_true rfl) g1 (show 2 * gc2 + 89 ≤ 2 * 8 + 89 by omega) ?_
  refine L_nm (284, [some (.float 14), some (.ref 0), some (.ref 62), some (.int (nI i))], [.int r], qS sw2 gc2 I1 J1) rfl ?_
  refine L_aload_n hX (x := .ref 62) rfl rfl rfl ?_
  refine L_arg hX hk hv hb (pc := 285) (j := 1) rfl rfl rfl rfl rfl rfl (by omega) hL ?_
  refine L_arg hX hk hv hb (pc := 290) (j := 2) rfl rfl rfl rfl rfl rfl (by omega) hL ?_
  refine L_arg hX hk hv hb (pc := 295) (j := 3) rfl rfl rfl rfl rfl rfl (by omega) hL ?_
  refine L_callV hX hR (M' := qS false 8 I J) hC (b := 62) (ci := 9) (as := [.int (xs (i + 1)), .int (xs (i + 2)), .int (xs (i + 3))]) (rest := [.int r]) rfl rfl rfl (q_lt (by decide)) (by decide) rfl rfl (Nat.le_of_ble_eq_true rfl) g2 (show 2 * gc2 + 89 ≤ 2 * 8 + 89 by omega) ?_
  refine L_nm (303, [some (.float 14), some (.ref 0), some (.ref 62), some (.int (nI i))], [.int r, .int r], qS sw2 gc2 I2 J2) rfl ?_
  exact L_icmp_eq hX 1029 rfl rfl (fun _ => hih sw2 gc2 I2 J2 hRel) (fun h9 => absurd rfl h9)
theorem L_case6 {l : Launch} {D : va_G} {dA : Nat → ClassId} {kv : Nat → Value} {N0 : Nat} {p : Program} {e : Env} {s : State} {m : MethodId} {args : Array Value} {below : List Frame} {meth : Method} {co : Code} {R : Room} {Q : State → Prop} (hX : q_XL D dA kv N0 p s m args co) {b L : Nat} {xs : Nat → Int32} (hk : kv 14 = .ref b) (hv : va_X b L xs s s.heap) (hb : b < N0) {i : Nat} (hi : i + 5 ≤ L) (hL : L ≤ 2560) (hR : 12 + 1 ≤ R.frames ∧ 36 * (12 + 1) ≤ R.locals) (hC : 105 ≤ R.cells ∧ q_sl 105 ≤ R.slots) (hih : ∀ (sw : Bool) (gc : Nat) (I : Nat → Nat → Int32) (J : Nat → Nat → Int64), s_Rel sw gc I J → q_LW l D dA kv N0 p e s m args below meth co R Q (1029, [some (.float 14), some (.ref 0), some (.ref 62), some (.int (nI i))], [], qS sw gc I J)) {sw : Bool} {gc : Nat} {I : Nat → Nat → Int32} {J : Nat → Nat → Int64} (h : s_Rel sw gc I J) : q_LW l D dA kv N0 p e s m args below meth co R Q (308, [some (.float 14), some (.ref 0), some (.ref 62), some (.int (nI i))], [], qS sw gc I J) := by
  obtain ⟨r, sw2, gc2, I1, J1, I2, J2, hle, g1, g2, hRel⟩ := s_facec (xs (i + 1)) (xs (i + 2)) (xs (i + 3)) 0 sw gc I J h
  have h8 := hRel.2.2.2.1.1
  refine L_aload_n hX (x := .ref 0) rfl rfl rfl ?_
  refine L_arg hX hk hv hb (pc := 309) (j := 1) rfl rfl rfl rfl rfl rfl (by omega) hL ?_
  refine L_arg hX hk hv hb (pc := 314) (j := 2) rfl rfl rfl rfl rfl rfl (by omega) hL ?_
  refine L_arg hX hk hv hb (pc := 319) (j := 3) rfl rfl rfl rfl rfl rfl (by omega) hL ?_
  refine L_callV hX hR (M' := qS false 8 I J) hC (b := 0) (ci := 8) (as := [.int (xs (i + 1)), .int (xs (i + 2)), .int (xs (i + 3))]) (rest := []) rfl rfl rfl (q_lt (by decide)) (by decide) rfl rfl (Nat.le_of_ble_eq_true rfl) g1 (show 2 * gc2 + 89 ≤ 2 * 8 + 89 by omega) ?_
  refine L_nm (327, [some (.float 14), some (.ref 0), some (.ref 62), some (.int (nI i))], [.int r], qS sw2 gc2 I1 J1) rfl ?_
  refine L_aload_n hX (x := .ref 62) rfl rfl rfl ?_
  refine L_arg hX hk hv hb (pc := 328) (j := 1) rfl rfl rfl rfl rfl rfl (by omega) hL ?_
  refine L_arg hX hk hv hb (pc := 333) (j := 2) rfl rfl rfl rfl rfl rfl (by omega) hL ?_
  refine L_arg hX hk hv hb (pc := 338) (j := 3) rfl rfl rfl rfl rfl rfl (by omega) hL ?_
  refine L_callV hX hR (M' := qS false 8 I J) hC (b := 62) (ci := 9) (as := [.int (xs (i + 1)), .int (xs (i + 2)), .int (xs (i + 3))]) (rest := [.int r]) rfl rfl rfl (q_lt (by decide)) (by decide) rfl rfl (Nat.le_of_ble_eq_true rfl) g2 (show 2 * gc2 + 89 ≤ 2 * 8 + 89 by omega) ?_
  refine L_nm (346, [some (.float 14), some (.ref 0), some (.ref 62), some (.int (nI i))], [.int r, .int r], qS sw2 gc2 I2 J2) rfl ?_
  exact L_icmp_eq hX 1029 rfl rfl (fun _ => hih sw2 gc2 I2 J2 hRel) (fun h9 => absurd rfl h9)
theorem L_case7 {l : Launch} {D : va_G} {dA : Nat → ClassId} {kv : Nat → Value} {N0 : Nat} {p : Program} {e : Env} {s : State} {m : MethodId} {args : Array Value} {below : List Frame} {meth : Method} {co : Code} {R : Room} {Q : State → Prop} (hX : q_XL D dA kv N0 p s m args co) {b L : Nat} {xs : Nat → Int32} (hk : kv 14 = .ref b) (hv : va_X b L xs s s.heap) (hb : b < N0) {i : Nat} (hi : i + 5 ≤ L) (hL : L ≤ 2560) (hR : 12 + 1 ≤ R.frames ∧ 36 * (12 + 1) ≤ R.locals) (hC : 105 ≤ R.cells ∧ q_sl 105 ≤ R.slots) (hih : ∀ (sw : Bool) (gc : Nat) (I : Nat → Nat → Int32) (J : Nat → Nat → Int64), s_Rel sw gc I J → q_LW l D dA kv N0 p e s m args below meth co R Q (1029, [some (.float 14), some (.ref 0), some (.ref 62), some (.int (nI i))], [], qS sw gc I J)) {sw : Bool} {gc : Nat} {I : Nat → Nat → Int32} {J : Nat → Nat → Int64} (h : s_Rel sw gc I J) : q_LW l D dA kv N0 p e s m args below meth co R Q (351, [some (.float 14), some (.ref 0), some (.ref 62), some (.int (nI i))], [], qS sw gc I J) := by
  obtain ⟨r, sw2, gc2, I1, J1, I2, J2, hle, g1, g2, hRel⟩ := s_clear (xs (i + 1)) (xs (i + 2)) (xs (i + 3)) 0 sw gc I J h
  have h8 := hRel.2.2.2.1.1
  refine L_aload_n hX (x := .ref 0) rfl rfl rfl ?_
  refine L_arg hX hk hv hb (pc := 352) (j := 1) rfl rfl rfl rfl rfl rfl (by omega) hL ?_
  refine L_arg hX hk hv hb (pc := 357) (j := 2) rfl rfl rfl rfl rfl rfl (by omega) hL ?_
  refine L_arg hX hk hv hb (pc := 362) (j := 3) rfl rfl rfl rfl rfl rfl (by omega) hL ?_
  refine L_callV hX hR (M' := qS false 8 I J) hC (b := 0) (ci := 8) (as := [.int (xs (i + 1)), .int (xs (i + 2)), .int (xs (i + 3))]) (rest := []) rfl rfl rfl (q_lt (by decide)) (by decide) rfl rfl (Nat.le_of_ble_eq_true rfl) g1 (show 2 * gc2 + 89 ≤ 2 * 8 + 89 by omega) ?_
  refine L_nm (370, [some (.float 14), some (.ref 0), some (.ref 62), some (.int (nI i))], [.int r], qS sw2 gc2 I1 J1) rfl ?_
  refine L_aload_n hX (x := .ref 62) rfl rfl rfl ?_
  refine L_arg hX hk hv hb (pc := 371) (j := 1) rfl rfl rfl rfl rfl rfl (by omega) hL ?_
  refine L_arg hX hk hv hb (pc := 376) (j := 2) rfl rfl rfl rfl rfl rfl (by omega) hL ?_
  refine L_arg hX hk hv hb (pc := 381) (j := 3) rfl rfl rfl rfl rfl rfl (by omega) hL ?_
  refine L_callV hX hR (M' := qS false 8 I J) hC (b := 62) (ci := 9) (as := [.int (xs (i + 1)), .int (xs (i + 2)), .int (xs (i + 3))]) (rest := [.int r]) rfl rfl rfl (q_lt (by decide)) (by decide) rfl rfl (Nat.le_of_ble_eq_true rfl) g2 (show 2 * gc2 + 89 ≤ 2 * 8 + 89 by omega) ?_
  refine L_nm (389, [some (.float 14), some (.ref 0), some (.ref 62), some (.int (nI i))], [.int r, .int r], qS sw2 gc2 I2 J2) rfl ?_
  exact L_icmp_eq hX 1029 rfl rfl (fun _ => hih sw2 gc2 I2 J2 hRel) (fun h9 => absurd rfl h9)
theorem L_case8 {l : Launch} {D : va_G} {dA : Nat → ClassId} {kv : Nat → Value} {N0 : Nat} {p : Program} {e : Env} {s : State} {m : MethodId} {args : Array Value} {below : List Frame} {meth : Method} {co : Code} {R : Room} {Q : State → Prop} (hX : q_XL D dA kv N0 p s m args co) {b L : Nat} {xs : Nat → Int32} (hk : kv 14 = .ref b) (hv : va_X b L xs s s.heap) (hb : b < N0) {i : Nat} (hi : i + 5 ≤ L) (hL : L ≤ 2560) (hR : 12 + 1 ≤ R.frames ∧ 36 * (12 + 1) ≤ R.locals) (hC : 105 ≤ R.cells ∧ q_sl 105 ≤ R.slots) (hih : ∀ (sw : Bool) (gc : Nat) (I : Nat → Nat → Int32) (J : Nat → Nat → Int64), s_Rel sw gc I J → q_LW l D dA kv N0 p e s m args below meth co R Q (1029, [some (.float 14), some (.ref 0), some (.ref 62), some (.int (nI i))], [], qS sw gc I J)) {sw : Bool} {gc : Nat} {I : Nat → Nat → Int32} {J : Nat → Nat → Int64} (h : s_Rel sw gc I J) : q_LW l D dA kv N0 p e s m args below meth co R Q (394, [some (.float 14), some (.ref 0), some (.ref 62), some (.int (nI i))], [], qS sw gc I J) := by
  obtain ⟨r, sw2, gc2, I1, J1, I2, J2, hle, g1, g2, hRel⟩ := s_gang (xs (i + 1)) 0 sw gc I J h
  have h8 := hRel.2.2.2.1.1
  refine L_aload_n hX (x := .ref 0) rfl rfl rfl ?_
  refine L_arg hX hk hv hb (pc := 395) (j := 1) rfl rfl rfl rfl rfl rfl (by omega) hL ?_
  refine L_callV hX hR (M' := qS false 8 I J) hC (b := 0) (ci := 8) (as := [.int (xs (i + 1))]) (rest := []) rfl rfl rfl (q_lt (by decide)) (by decide) rfl rfl (Nat.le_of_ble_eq_true rfl) g1 (show 2 * gc2 + 89 ≤ 2 * 8 + 89 by omega) ?_
  refine L_nm (403, [some (.float 14), some (.ref 0), some (.ref 62), some (.int (nI i))], [.int r], qS sw2 gc2 I1 J1) rfl ?_
  refine L_aload_n hX (x := .ref 62) rfl rfl rfl ?_
  refine L_arg hX hk hv hb (pc := 404) (j := 1) rfl rfl rfl rfl rfl rfl (by omega) hL ?_
  refine L_callV hX hR (M' := qS false 8 I J) hC (b := 62) (ci := 9) (as := [.int (xs (i + 1))]) (rest := [.int r]) rfl rfl rfl (q_lt (by decide)) (by decide) rfl rfl (Nat.le_of_ble_eq_true rfl) g2 (show 2 * gc2 + 89 ≤ 2 * 8 + 89 by omega) ?_
  refine L_nm (412, [some (.float 14), some (.ref 0), some (.ref 62), some (.int (nI i))], [.int r, .int r], qS sw2 gc2 I2 J2) rfl ?_
  exact L_icmp_eq hX 1029 rfl rfl (fun _ => hih sw2 gc2 I2 J2 hRel) (fun h9 => absurd rfl h9)
theorem L_case9 {l : Launch} {D : va_G} {dA : Nat → ClassId} {kv : Nat → Value} {N0 : Nat} {p : Program} {e : Env} {s : State} {m : MethodId} {args : Array Value} {below : List Frame} {meth : Method} {co : Code} {R : Room} {Q : State → Prop} (hX : q_XL D dA kv N0 p s m args co) {b L : Nat} {xs : Nat → Int32} (hk : kv 14 = .ref b) (hv : va_X b L xs s s.heap) (hb : b < N0) {i : Nat} (hi : i + 5 ≤ L) (hL : L ≤ 2560) (hR : 12 + 1 ≤ R.frames ∧ 36 * (12 + 1) ≤ R.locals) (hC : 105 ≤ R.cells ∧ q_sl 105 ≤ R.slots) (hih : ∀ (sw : Bool) (gc : Nat) (I : Nat → Nat → Int32) (J : Nat → Nat → Int64), s_Rel sw gc I J → q_LW l D dA kv N0 p e s m args below meth co R Q (1029, [some (.float 14), some (.ref 0), some (.ref 62), some (.int (nI i))], [], qS sw gc I J)) {sw : Bool} {gc : Nat} {I : Nat → Nat → Int32} {J : Nat → Nat → Int64} (h : s_Rel sw gc I J) : q_LW l D dA kv N0 p e s m args below meth co R Q (417, [some (.float 14), some (.ref 0), some (.ref 62), some (.int (nI i))], [], qS sw gc I J) := by
  obtain ⟨r, sw2, gc2, I1, J1, I2, J2, hle, g1, g2, hRel⟩ := s_told (xs (i + 1)) (xs (i + 2)) 0 sw gc I J h
  have h8 := hRel.2.2.2.1.1
  refine L_aload_n hX (x := .ref 0) rfl rfl rfl ?_
  refine L_arg hX hk hv hb (pc := 418) (j := 1) rfl rfl rfl rfl rfl rfl (by omega) hL ?_
  refine L_arg hX hk hv hb (pc := 423) (j := 2) rfl rfl rfl rfl rfl rfl (by omega) hL ?_
  refine L_callV hX hR (M' := qS false 8 I J) hC (b := 0) (ci := 8) (as := [.int (xs (i + 1)), .int (xs (i + 2))]) (rest := []) rfl rfl rfl (q_lt (by decide)) (by decide) rfl rfl (Nat.le_of_ble_eq_true rfl) g1 (show 2 * gc2 + 89 ≤ 2 * 8 + 89 by omega) ?_
  refine L_nm (431, [some (.float 14), some (.ref 0), some (.ref 62), some (.int (nI i))], [.int r], qS sw2 gc2 I1 J1) rfl ?_
  refine L_aload_n hX (x := .ref 62) rfl rfl rfl ?_
  refine L_arg hX hk hv hb (pc := 432) (j := 1) rfl rfl rfl rfl rfl rfl (by omega) hL ?_
  refine L_arg hX hk hv hb (pc := 437) (j := 2) rfl rfl rfl rfl rfl rfl (by omega) hL ?_
  refine L_callV hX hR (M' := qS false 8 I J) hC (b := 62) (ci := 9) (as := [.int (xs (i + 1)), .int (xs (i + 2))]) (rest := [.int r]) rfl rfl rfl (q_lt (by decide)) (by decide) rfl rfl (Nat.le_of_ble_eq_true rfl) g2 (show 2 * gc2 + 89 ≤ 2 * 8 + 89 by omega) ?_
  refine L_nm (445, [some (.float 14), some (.ref 0), some (.ref 62), some (.int (nI i))], [.int r, .int r], qS sw2 gc2 I2 J2) rfl ?_
  exact L_icmp_eq hX 1029 rfl rfl (fun _ => hih sw2 gc2 I2 J2 hRel) (fun h9 => absurd rfl h9)
theorem L_case10 {l : Launch} {D : va_G} {dA : Nat → ClassId} {kv : Nat → Value} {N0 : Nat} {p : Program} {e : Env} {s : State} {m : MethodId} {args : Array Value} {below : List Frame} {meth : Method} {co : Code} {R : Room} {Q : State → Prop} (hX : q_XL D dA kv N0 p s m args co) {b L : Nat} {xs : Nat → Int32} (hk : kv 14 = .ref b) (hv : va_X b L xs s s.heap) (hb : b < N0) {i : Nat} (hi : i + 5 ≤ L) (hL : L ≤ 2560) (hR : 12 + 1 ≤ R.frames ∧ 36 * (12 + 1) ≤ R.locals) (hC : 105 ≤ R.cells ∧ q_sl 105 ≤ R.slots) (hih : ∀ (sw : Bool) (gc : Nat) (I : Nat → Nat → Int32) (J : Nat → Nat → Int64), s_Rel sw gc I J → q_LW l D dA kv N0 p e s m args below meth co R Q (1029, [some (.float 14), some (.ref 0), some (.ref 62), some (.int (nI i))], [], qS sw gc I J)) {sw : Bool} {gc : Nat} {I : Nat → Nat → Int32} {J : Nat → Nat → Int64} (h : s_Rel sw gc I J) : q_LW l D dA kv N0 p e s m args below meth co R Q (450, [some (.float 14), some (.ref 0), some (.ref 62), some (.int (nI i))], [], qS sw gc I J) := by
  obtain ⟨r, sw2, gc2, I1, J1, I2, J2, hle, g1, g2, hRel⟩ := s_move (xs (i + 1)) (xs (i + 2)) (xs (i + 3)) 0 sw gc I J h
  have h8 := hRel.2.2.2.1.1
  refine L_aload_n hX (x := .ref 0) rfl rfl rfl ?_
  refine L_arg hX hk hv hb (pc := 451) (j := 1) rfl rfl rfl rfl rfl rfl (by omega) hL ?_
  refine L_arg hX hk hv hb (pc := 456) (j := 2) rfl rfl rfl rfl rfl rfl (by omega) hL ?_
  refine L_arg hX hk hv hb (pc := 461) (j := 3) rfl rfl rfl rfl rfl rfl (by omega) hL ?_
  refine L_callV hX hR (M' := qS false 8 I J) hC (b := 0) (ci := 8) (as := [.int (xs (i + 1)), .int (xs (i + 2)), .int (xs (i + 3))]) (rest := []) rfl rfl rfl (q_lt (by decide)) (by decide) rfl rfl (Nat.le_of_ble_eq_true rfl) g1 (show 2 * gc2 + 89 ≤ 2 * 8 + 89 by omega) ?_
  refine L_nm (469, [some (.float 14), some (.ref 0), some (.ref 62), some (.int (nI i))], [.int r], qS sw2 gc2 I1 J1) rfl ?_
  refine L_aload_n hX (x := .ref 62) rfl rfl rfl ?_
  refine L_arg hX hk hv hb (pc := 470) (j := 1) rfl rfl rfl rfl rfl rfl (by omega) hL ?_
  refine L_arg hX hk hv hb (pc := 475) (j := 2) rfl rfl rfl rfl rfl rfl (by omega) hL ?_
  refine L_arg hX hk hv hb (pc := 480) (j := 3) rfl rfl rfl rfl rfl rfl (by omega) hL ?_
  refine L_callV hX hR (M' := qS false 8 I J) hC (b := 62) (ci := 9) (as := [.int (xs (i + 1)), .int (xs (i + 2)), .int (xs (i + 3))]) (rest := [.int r]) rfl rfl rfl (q_lt (by decide)) (by decide) rfl rfl (Nat.le_of_ble_eq_true rfl) g2 (show 2 * gc2 + 89 ≤ 2 * 8 + 89 by omega) ?_
  refine L_nm (488, [some (.float 14), some (.ref 0), some (.ref 62), some (.int (nI i))], [.int r, .int r], qS sw2 gc2 I2 J2) rfl ?_
  exact L_icmp_eq hX 1029 rfl rfl (fun _ => hih sw2 gc2 I2 J2 hRel) (fun h9 => absurd rfl h9)
theorem L_case11 {l : Launch} {D : va_G} {dA : Nat → ClassId} {kv : Nat → Value} {N0 : Nat} {p : Program} {e : Env} {s : State} {m : MethodId} {args : Array Value} {below : List Frame} {meth : Method} {co : Code} {R : Room} {Q : State → Prop} (hX : q_XL D dA kv N0 p s m args co) {b L : Nat} {xs : Nat → Int32} (hk : kv 14 = .ref b) (hv : va_X b L xs s s.heap) (hb : b < N0) {i : Nat} (hi : i + 5 ≤ L) (hL : L ≤ 2560) (hR : 12 + 1 ≤ R.frames ∧ 36 * (12 + 1) ≤ R.locals) (hC : 105 ≤ R.cells ∧ q_sl 105 ≤ R.slots) (hih : ∀ (sw : Bool) (gc : Nat) (I : Nat → Nat → Int32) (J : Nat → Nat → Int64), s_Rel sw gc I J → q_LW l D dA kv N0 p e s m args below meth co R Q (1029, [some (.float 14), some (.ref 0), some (.ref 62), some (.int (nI i))], [], qS sw gc I J)) {sw : Bool} {gc : Nat} {I : Nat → Nat → Int32} {J : Nat → Nat → Int64} (h : s_Rel sw gc I J) : q_LW l D dA kv N0 p e s m args below meth co R Q (493, [some (.float 14), some (.ref 0), some (.ref 62), some (.int (nI i))], [], qS sw gc I J) := by
  obtain ⟨r, sw2, gc2, I1, J1, I2, J2, hle, g1, g2, hRel⟩ := s_ask (xs (i + 1)) (xs (i + 2)) (xs (i + 3)) (xs (i + 4)) 0 sw gc I J h
  have h8 := hRel.2.2.2.1.1
  refine L_aload_n hX (x := .ref 0) rfl rfl rfl ?_
  refine L_arg hX hk hv hb (pc := 494) (j := 1) rfl rfl rfl rfl rfl rfl (by omega) hL ?_
  refine L_arg hX hk hv hb (pc := 499) (j := 2) rfl rfl rfl rfl rfl rfl (by omega) hL ?_
  refine L_arg hX hk hv hb (pc := 504) (j := 3) rfl rfl rfl rfl rfl rfl (by omega) hL ?_
  refine L_arg hX hk hv hb (pc := 509) (j := 4) rfl rfl rfl rfl rfl rfl (by omega) hL ?_
  refine L_callV hX hR (M' := qS false 8 I J) hC (b := 0) (ci := 8) (as := [.int (xs (i + 1)), .int (xs (i + 2)), .int (xs (i + 3)), .int (xs (i + 4))]) (rest := []) rfl rfl rfl (q_lt (by decide)) (by decide) rfl rfl (Nat.le_of_ble_eq_true rfl) g1 (show 2 * gc2 + 89 ≤ 2 * 8 + 89 by omega) ?_
  refine L_nm (517, [some (.float 14), some (.ref 0), some (.ref 62), some (.int (nI i))], [.int r], qS sw2 gc2 I1 J1) rfl ?_
  refine L_aload_n hX (x := .ref 62) rfl rfl rfl ?_
  refine L_arg hX hk hv hb (pc := 518) (j := 1) rfl rfl rfl rfl rfl rfl (by omega) hL ?_
  refine L_arg hX hk hv hb (pc := 523) (j := 2) rfl rfl rfl rfl rfl rfl (by omega) hL ?_
  refine L_arg hX hk hv hb (pc := 528) (j := 3) rfl rfl rfl rfl rfl rfl (by omega) hL ?_
  refine L_arg hX hk hv hb (pc := 533) (j := 4) rfl rfl rfl rfl rfl rfl (by omega) hL ?_
  refine L_callV hX hR (M' := qS false 8 I J) hC (b := 62) (ci := 9) (as := [.int (xs (i + 1)), .int (xs (i + 2)), .int (xs (i + 3)), .int (xs (i + 4))]) (rest := [.int r]) rfl rfl rfl (q_lt (by decide)) (by decide) rfl rfl (Nat.le_of_ble_eq_true rfl) g2 (show 2 * gc2 + 89 ≤ 2 * 8 + 89 by omega) ?_
  refine L_nm (541, [some (.float 14), some (.ref 0), some (.ref 62), some (.int (nI i))], [.int r, .int r], qS sw2 gc2 I2 J2) rfl ?_
  exact L_icmp_eq hX 1029 rfl rfl (fun _ => hih sw2 gc2 I2 J2 hRel) (fun h9 => absurd rfl h9)
theorem L_case12 {l : Launch} {D : va_G} {dA : Nat → ClassId} {kv : Nat → Value} {N0 : Nat} {p : Program} {e : Env} {s : State} {m : MethodId} {args : Array Value} {below : List Frame} {meth : Method} {co : Code} {R : Room} {Q : State → Prop} (hX : q_XL D dA kv N0 p s m args co) {b L : Nat} {xs : Nat → Int32} (hk : kv 14 = .ref b) (hv : va_X b L xs s s.heap) (hb : b < N0) {i : Nat} (hi : i + 5 ≤ L) (hL : L ≤ 2560) (hR : 12 + 1 ≤ R.frames ∧ 36 * (12 + 1) ≤ R.locals) (hC : 105 ≤ R.cells ∧ q_sl 105 ≤ R.slots) (hih : ∀ (sw : Bool) (gc : Nat) (I : Nat → Nat → Int32) (J : Nat → Nat → Int64), s_Rel sw gc I J → q_LW l D dA kv N0 p e s m args below meth co R Q (1029, [some (.float 14), some (.ref 0), some (.ref 62), some (.int (nI i))], [], qS sw gc I J)) {sw : Bool} {gc : Nat} {I : Nat → Nat → Int32} {J : Nat → Nat → Int64} (h : s_Rel sw gc I J) : q_LW l D dA kv N0 p e s m args below meth co R Q (546, [some (.float 14), some (.ref 0), some (.ref 62), some (.int (nI i))], [], qS sw gc I J) := by
  obtain ⟨r, sw2, gc2, I1, J1, I2, J2, hle, g1, g2, hRel⟩ := s_let 0 sw gc I J h
  have h8 := hRel.2.2.2.1.1
  refine L_aload_n hX (x := .ref 0) rfl rfl rfl ?_
  refine L_callV hX hR (M' := qS false 8 I J) hC (b := 0) (ci := 8) (as := []) (rest := []) rfl rfl rfl (q_lt (by decide)) (by decide) rfl rfl (Nat.le_of_ble_eq_true rfl) g1 (show 2 * gc2 + 89 ≤ 2 * 8 + 89 by omega) ?_
  refine L_nm (550, [some (.float 14), some (.ref 0), some (.ref 62), some (.int (nI i))], [.int r], qS sw2 gc2 I1 J1) rfl ?_
  refine L_aload_n hX (x := .ref 62) rfl rfl rfl ?_
  refine L_callV hX hR (M' := qS false 8 I J) hC (b := 62) (ci := 9) (as := []) (rest := [.int r]) rfl rfl rfl (q_lt (by decide)) (by decide) rfl rfl (Nat.le_of_ble_eq_true rfl) g2 (show 2 * gc2 + 89 ≤ 2 * 8 + 89 by omega) ?_
  refine L_nm (554, [some (.float 14), some (.ref 0), some (.ref 62), some (.int (nI i))], [.int r, .int r], qS sw2 gc2 I2 J2) rfl ?_
  exact L_icmp_eq hX 1029 rfl rfl (fun _ => hih sw2 gc2 I2 J2 hRel) (fun h9 => absurd rfl h9)
theorem L_case13 {l : Launch} {D : va_G} {dA : Nat → ClassId} {kv : Nat → Value} {N0 : Nat} {p : Program} {e : Env} {s : State} {m : MethodId} {args : Array Value} {below : List Frame} {meth : Method} {co : Code} {R : Room} {Q : State → Prop} (hX : q_XL D dA kv N0 p s m args co) {b L : Nat} {xs : Nat → Int32} (hk : kv 14 = .ref b) (hv : va_X b L xs s s.heap) (hb : b < N0) {i : Nat} (hi : i + 5 ≤ L) (hL : L ≤ 2560) (hR : 12 + 1 ≤ R.frames ∧ 36 * (12 + 1) ≤ R.locals) (hC : 105 ≤ R.cells ∧ q_sl 105 ≤ R.slots) (hih : ∀ (sw : Bool) (gc : Nat) (I : Nat → Nat → Int32) (J : Nat → Nat → Int64), s_Rel sw gc I J → q_LW l D dA kv N0 p e s m args below meth co R Q (1029, [some (.float 14), some (.ref 0), some (.ref 62), some (.int (nI i))], [], qS sw gc I J)) {sw : Bool} {gc : Nat} {I : Nat → Nat → Int32} {J : Nat → Nat → Int64} (h : s_Rel sw gc I J) : q_LW l D dA kv N0 p e s m args below meth co R Q (559, [some (.float 14), some (.ref 0), some (.ref 62), some (.int (nI i))], [], qS sw gc I J) := by
  obtain ⟨r, sw2, gc2, I1, J1, I2, J2, hle, g1, g2, hRel⟩ := s_month 0 sw gc I J h
  have h8 := hRel.2.2.2.1.1
  refine L_aload_n hX (x := .ref 0) rfl rfl rfl ?_
  refine L_callV hX hR (M' := qS false 8 I J) hC (b := 0) (ci := 8) (as := []) (rest := []) rfl rfl rfl (q_lt (by decide)) (by decide) rfl rfl (Nat.le_of_ble_eq_true rfl) g1 (show 2 * gc2 + 89 ≤ 2 * 8 + 89 by omega) ?_
  refine L_nm (563, [some (.float 14), some (.ref 0), some (.ref 62), some (.int (nI i))], [.int r], qS sw2 gc2 I1 J1) rfl ?_
  refine L_aload_n hX (x := .ref 62) rfl rfl rfl ?_
  refine L_callV hX hR (M' := qS false 8 I J) hC (b := 62) (ci := 9) (as := []) (rest := [.int r]) rfl rfl rfl (q_lt (by decide)) (by decide) rfl rfl (Nat.le_of_ble_eq_true rfl) g2 (show 2 * gc2 + 89 ≤ 2 * 8 + 89 by omega) ?_
  refine L_nm (567, [some (.float 14), some (.ref 0), some (.ref 62), some (.int (nI i))], [.int r, .int r], qS sw2 gc2 I2 J2) rfl ?_
  exact L_icmp_eq hX 1029 rfl rfl (fun _ => hih sw2 gc2 I2 J2 hRel) (fun h9 => absurd rfl h9)
theorem L_case14 {l : Launch} {D : va_G} {dA : Nat → ClassId} {kv : Nat → Value} {N0 : Nat} {p : Program} {e : Env} {s : State} {m : MethodId} {args : Array Value} {below : List Frame} {meth : Method} {co : Code} {R : Room} {Q : State → Prop} (hX : q_XL D dA kv N0 p s m args co) {b L : Nat} {xs : Nat → Int32} (hk : kv 14 = .ref b) (hv : va_X b L xs s s.heap) (hb : b < N0) {i : Nat} (hi : i + 5 ≤ L) (hL : L ≤ 2560) (hR : 12 + 1 ≤ R.frames ∧ 36 * (12 + 1) ≤ R.locals) (hC : 105 ≤ R.cells ∧ q_sl 105 ≤ R.slots) (hih : ∀ (sw : Bool) (gc : Nat) (I : Nat → Nat → Int32) (J : Nat → Nat → Int64), s_Rel sw gc I J → q_LW l D dA kv N0 p e s m args below meth co R Q (1029, [some (.float 14), some (.ref 0), some (.ref 62), some (.int (nI i))], [], qS sw gc I J)) {sw : Bool} {gc : Nat} {I : Nat → Nat → Int32} {J : Nat → Nat → Int64} (h : s_Rel sw gc I J) : q_LW l D dA kv N0 p e s m args below meth co R Q (572, [some (.float 14), some (.ref 0), some (.ref 62), some (.int (nI i))], [], qS sw gc I J) := by
  obtain ⟨r, sw2, gc2, I1, J1, I2, J2, hle, g1, g2, hRel⟩ := s_size (xs (i + 1)) (xs (i + 2)) 0 sw gc I J h
  have h8 := hRel.2.2.2.1.1
  refine L_aload_n hX (x := .ref 0) rfl rfl rfl ?_
  refine L_arg hX hk hv hb (pc := 573) (j := 1) rfl rfl rfl rfl rfl rfl (by omega) hL ?_
  refine L_arg hX hk hv hb (pc := 578) (j := 2) rfl rfl rfl rfl rfl rfl (by omega) hL ?_
  refine L_callV hX hR (M' := qS false 8 I J) hC (b := 0) (ci := 8) (as := [.int (xs (i + 1)), .int (xs (i + 2))]) (rest := []) rfl rfl rfl (q_lt (by decide)) (by decide) rfl rfl (Nat.le_of_ble_eq_true rfl) g1 (show 2 * gc2 + 89 ≤ 2 * 8 + 89 by omega) ?_
  refine L_nm (586, [some (.float 14), some (.ref 0), some (.ref 62), some (.int (nI i))], [.int r], qS sw2 gc2 I1 J1) rfl ?_
  refine L_aload_n hX (x := .ref 62) rfl rfl rfl ?_
  refine L_arg hX hk hv hb (pc := 587) (j := 1) rfl rfl rfl rfl rfl rfl (by omega) hL ?_
  refine L_arg hX hk hv hb (pc := 592) (j := 2) rfl rfl rfl rfl rfl rfl (by omega) hL ?_
  refine L_callV hX hR (M' := qS false 8 I J) hC (b := 62) (ci := 9) (as := [.int (xs (i + 1)), .int (xs (i + 2))]) (rest := [.int r]) rfl rfl rfl (q_lt (by decide)) (by decide) rfl rfl (Nat.le_of_ble_eq_true rfl) g2 (show 2 * gc2 + 89 ≤ 2 * 8 + 89 by omega) ?_
  refine L_nm (600, [some (.float 14), some (.ref 0), some (.ref 62), some (.int (nI i))], [.int r, .int r], qS sw2 gc2 I2 J2) rfl ?_
  exact L_icmp_eq hX 1029 rfl rfl (fun _ => hih sw2 gc2 I2 J2 hRel) (fun h9 => absurd rfl h9)
theorem L_case15 {l : Launch} {D : va_G} {dA : Nat → ClassId} {kv : Nat → Value} {N0 : Nat} {p : Program} {e : Env} {s : State} {m : MethodId} {args : Array Value} {below : List Frame} {meth : Method} {co : Code} {R : Room} {Q : State → Prop} (hX : q_XL D dA kv N0 p s m args co) {b L : Nat} {xs : Nat → Int32} (hk : kv 14 = .ref b) (hv : va_X b L xs s s.heap) (hb : b < N0) {i : Nat} (hi : i + 5 ≤ L) (hL : L ≤ 2560) (hR : 12 + 1 ≤ R.frames ∧ 36 * (12 + 1) ≤ R.locals) (hC : 105 ≤ R.cells ∧ q_sl 105 ≤ R.slots) (hih : ∀ (sw : Bool) (gc : Nat) (I : Nat → Nat → Int32) (J : Nat → Nat → Int64), s_Rel sw gc I J → q_LW l D dA kv N0 p e s m args below meth co R Q (1029, [some (.float 14), some (.ref 0), some (.ref 62), some (.int (nI i))], [], qS sw gc I J)) {sw : Bool} {gc : Nat} {I : Nat → Nat → Int32} {J : Nat → Nat → Int64} (h : s_Rel sw gc I J) : q_LW l D dA kv N0 p e s m args below meth co R Q (605, [some (.float 14), some (.ref 0), some (.ref 62), some (.int (nI i))], [], qS sw gc I J) := by
  obtain ⟨r, sw2, gc2, I1, J1, I2, J2, hle, g1, g2, hRel⟩ := s_most (xs (i + 1)) (q_lg (xs (i + 2)) (xs (i + 2 + 1))) 0 sw gc I J h
  have h8 := hRel.2.2.2.1.1
  refine L_aload_n hX (x := .ref 0) rfl rfl rfl ?_
  refine L_arg hX hk hv hb (pc := 606) (j := 1) rfl rfl rfl rfl rfl rfl (by omega) hL ?_
  refine L_long hX hk hv hb (pc := 611) (j := 2) rfl rfl rfl rfl rfl rfl rfl rfl rfl rfl rfl rfl rfl rfl rfl rfl rfl rfl rfl (by omega) hL ?_
  refine L_callV hX hR (M' := qS false 8 I J) hC (b := 0) (ci := 8) (as := [.int (xs (i + 1)), .long (q_lg (xs (i + 2)) (xs (i + 2 + 1)))]) (rest := []) rfl rfl rfl (q_lt (by decide)) (by decide) rfl rfl (Nat.le_of_ble_eq_true rfl) g1 (show 2 * gc2 + 89 ≤ 2 * 8 + 89 by omega) ?_
  refine L_nm (634, [some (.float 14), some (.ref 0), some (.ref 62), some (.int (nI i))], [.int r], qS sw2 gc2 I1 J1) rfl ?_
  refine L_aload_n hX (x := .ref 62) rfl rfl rfl ?_
  refine L_arg hX hk hv hb (pc := 635) (j := 1) rfl rfl rfl rfl rfl rfl (by omega) hL ?_
  refine L_long hX hk hv hb (pc := 640) (j := 2) rfl rfl rfl rfl rfl rfl rfl rfl rfl rfl rfl rfl rfl rfl rfl rfl rfl rfl rfl (by omega) hL ?_
  refine L_callV hX hR (M' := qS false 8 I J) hC (b := 62) (ci := 9) (as := [.int (xs (i + 1)), .long (q_lg (xs (i + 2)) (xs (i + 2 + 1)))]) (rest := [.int r]) rfl rfl rfl (q_lt (by decide)) (by decide) rfl rfl (Nat.le_of_ble_eq_true rfl) g2 (show 2 * gc2 + 89 ≤ 2 * 8 + 89 by omega) ?_
  refine L_nm (663, [some (.float 14), some (.ref 0), some (.ref 62), some (.int (nI i))], [.int r, .int r], qS sw2 gc2 I2 J2) rfl ?_
  exact L_icmp_eq hX 1029 rfl rfl (fun _ => hih sw2 gc2 I2 J2 hRel) (fun h9 => absurd rfl h9)
theorem L_case16 {l : Launch} {D : va_G} {dA : Nat → ClassId} {kv : Nat → Value} {N0 : Nat} {p : Program} {e : Env} {s : State} {m : MethodId} {args : Array Value} {below : List Frame} {meth : Method} {co : Code} {R : Room} {Q : State → Prop} (hX : q_XL D dA kv N0 p s m args co) {b L : Nat} {xs : Nat → Int32} (hk : kv 14 = .ref b) (hv : va_X b L xs s s.heap) (hb : b < N0) {i : Nat} (hi : i + 5 ≤ L) (hL : L ≤ 2560) (hR : 12 + 1 ≤ R.frames ∧ 36 * (12 + 1) ≤ R.locals) (hC : 105 ≤ R.cells ∧ q_sl 105 ≤ R.slots) (hih : ∀ (sw : Bool) (gc : Nat) (I : Nat → Nat → Int32) (J : Nat → Nat → Int64), s_Rel sw gc I J → q_LW l D dA kv N0 p e s m args below meth co R Q (1029, [some (.float 14), some (.ref 0), some (.ref 62), some (.int (nI i))], [], qS sw gc I J)) {sw : Bool} {gc : Nat} {I : Nat → Nat → Int32} {J : Nat → Nat → Int64} (h : s_Rel sw gc I J) : q_LW l D dA kv N0 p e s m args below meth co R Q (668, [some (.float 14), some (.ref 0), some (.ref 62), some (.int (nI i))], [], qS sw gc I J) := by
  obtain ⟨r, sw2, gc2, I1, J1, I2, J2, hle, g1, g2, hRel⟩ := s_split (xs (i + 1)) (q_lg (xs (i + 2)) (xs (i + 2 + 1))) (xs (i + 4)) 0 sw gc I J h
  have h8 := hRel.2.2.2.1.1
  refine L_aload_n hX (x := .ref 0) rfl rfl rfl ?_
  refine L_arg hX hk hv hb (pc := 669) (j := 1) rfl rfl rfl rfl rfl rfl (by omega) hL ?_
  refine L_long hX hk hv hb (pc := 674) (j := 2) rfl rfl rfl rfl rfl rfl rfl rfl rfl rfl rfl rfl rfl rfl rfl rfl rfl rfl rfl (by omega) hL ?_
  refine L_arg hX hk hv hb (pc := 694) (j := 4) rfl rfl rfl rfl rfl rfl (by omega) hL ?_
  refine L_callV hX hR (M' := qS false 8 I J) hC (b := 0) (ci := 8) (as := [.int (xs (i + 1)), .long (q_lg (xs (i + 2)) (xs (i + 2 + 1))), .int (xs (i + 4))]) (rest := []) rfl rfl rfl (q_lt (by decide)) (by decide) rfl rfl (Nat.le_of_ble_eq_true rfl) g1 (show 2 * gc2 + 89 ≤ 2 * 8 + 89 by omega) ?_
  refine L_nm (702, [some (.float 14), some (.ref 0), some (.ref 62), some (.int (nI i))], [.int r], qS sw2 gc2 I1 J1) rfl ?_
  refine L_aload_n hX (x := .ref 62) rfl rfl rfl ?_
  refine L_arg hX hk hv hb (pc := 703) (j := 1) rfl rfl rfl rfl rfl rfl (by omega) hL ?_
  refine L_long hX hk hv hb (pc := 708) (j := 2) rfl rfl rfl rfl rfl rfl rfl rfl rfl rfl rfl rfl rfl rfl rfl rfl rfl rfl rfl (by omega) hL ?_
  refine L_arg hX hk hv hb (pc := 728) (j := 4) rfl rfl rfl rfl rfl rfl (by omega) hL ?_
  refine L_callV hX hR (M' := qS false 8 I J) hC (b := 62) (ci := 9) (as := [.int (xs (i + 1)), .long (q_lg (xs (i + 2)) (xs (i + 2 + 1))), .int (xs (i + 4))]) (rest := [.int r]) rfl rfl rfl (q_lt (by decide)) (by decide) rfl rfl (Nat.le_of_ble_eq_true rfl) g2 (show 2 * gc2 + 89 ≤ 2 * 8 + 89 by omega) ?_
  refine L_nm (736, [some (.float 14), some (.ref 0), some (.ref 62), some (.int (nI i))], [.int r, .int r], qS sw2 gc2 I2 J2) rfl ?_
  exact L_icmp_eq hX 1029 rfl rfl (fun _ => hih sw2 gc2 I2 J2 hRel) (fun h9 => absurd rfl h9)
theorem L_case17 {l : Launch} {D : va_G} {dA : Nat → ClassId} {kv : Nat → Value} {N0 : Nat} {p : Program} {e : Env} {s : State} {m : MethodId} {args : Array Value} {below : List Frame} {meth : Method} {co : Code} {R : Room} {Q : State → Prop} (hX : q_XL D dA kv N0 p s m args co) {b L : Nat} {xs : Nat → Int32} (hk : kv 14 = .ref b) (hv : va_X b L xs s s.heap) (hb : b < N0) {i : Nat} (hi : i + 5 ≤ L) (hL : L ≤ 2560) (hR : 12 + 1 ≤ R.frames ∧ 36 * (12 + 1) ≤ R.locals) (hC : 105 ≤ R.cells ∧ q_sl 105 ≤ R.slots) (hih : ∀ (sw : Bool) (gc : Nat) (I : Nat → Nat → Int32) (J : Nat → Nat → Int64), s_Rel sw gc I J → q_LW l D dA kv N0 p e s m args below meth co R Q (1029, [some (.float 14), some (.ref 0), some (.ref 62), some (.int (nI i))], [], qS sw gc I J)) {sw : Bool} {gc : Nat} {I : Nat → Nat → Int32} {J : Nat → Nat → Int64} (h : s_Rel sw gc I J) : q_LW l D dA kv N0 p e s m args below meth co R Q (741, [some (.float 14), some (.ref 0), some (.ref 62), some (.int (nI i))], [], qS sw gc I J) := by
  obtain ⟨r, sw2, gc2, I1, J1, I2, J2, hle, g1, g2, hRel⟩ := s_work (xs (i + 1)) (xs (i + 2)) (q_lg (xs (i + 3)) (xs (i + 3 + 1))) 0 sw gc I J h
  have h8 := hRel.2.2.2.1.1
  refine L_aload_n hX (x := .ref 0) rfl rfl rfl ?_
  refine L_arg hX hk hv hb (pc := 742) (j := 1) rfl rfl rfl rfl rfl rfl (by omega) hL ?_
  refine L_arg hX hk hv hb (pc := 747) (j := 2) rfl rfl rfl rfl rfl rfl (by omega) hL ?_
  refine L_long hX hk hv hb (pc := 752) (j := 3) rfl rfl rfl rfl rfl rfl rfl rfl rfl rfl rfl rfl rfl rfl rfl rfl rfl rfl rfl (by omega) hL ?_
  refine L_callV hX hR (M' := qS false 8 I J) hC (b := 0) (ci := 8) (as := [.int (xs (i + 1)), .int (xs (i + 2)), .long (q_lg (xs (i + 3)) (xs (i + 3 + 1)))]) (rest := []) rfl rfl rfl (q_lt (by decide)) (by decide) rfl rfl (Nat.le_of_ble_eq_true rfl) g1 (show 2 * gc2 + 89 ≤ 2 * 8 + 89 by omega) ?_
  refine L_nm (775, [some (.float 14), some (.ref 0), some (.ref 62), some (.int (nI i))], [.int r], qS sw2 gc2 I1 J1) rfl ?_
  refine L_aload_n hX (x := .ref 62) rfl rfl rfl ?_
  refine L_arg hX hk hv hb (pc := 776) (j := 1) rfl rfl rfl rfl rfl rfl (by omega) hL ?_
  refine L_arg hX hk hv hb (pc := 781) (j := 2) rfl rfl rfl rfl rfl rfl (by omega) hL ?_
  refine L_long hX hk hv hb (pc := 786) (j := 3) rfl rfl rfl rfl rfl rfl rfl rfl rfl rfl rfl rfl rfl rfl rfl rfl rfl rfl rfl (by omega) hL ?_
  refine L_callV hX hR (M' := qS false 8 I J) hC (b := 62) (ci := 9) (as := [.int (xs (i + 1)), .int (xs (i + 2)), .long (q_lg (xs (i + 3)) (xs (i + 3 + 1)))]) (rest := [.int r]) rfl rfl rfl (q_lt (by decide)) (by decide) rfl rfl (Nat.le_of_ble_eq_true rfl) g2 (show 2 * gc2 + 89 ≤ 2 * 8 + 89 by omega) ?_
  refine L_nm (809, [some (.float 14), some (.ref 0), some (.ref 62), some (.int (nI i))], [.int r, .int r], qS sw2 gc2 I2 J2) rfl ?_
  exact L_icmp_eq hX 1029 rfl rfl (fun _ => hih sw2 gc2 I2 J2 hRel) (fun h9 => absurd rfl h9)
theorem L_case18 {l : Launch} {D : va_G} {dA : Nat → ClassId} {kv : Nat → Value} {N0 : Nat} {p : Program} {e : Env} {s : State} {m : MethodId} {args : Array Value} {below : List Frame} {meth : Method} {co : Code} {R : Room} {Q : State → Prop} (hX : q_XL D dA kv N0 p s m args co) {b L : Nat} {xs : Nat → Int32} (hk : kv 14 = .ref b) (hv : va_X b L xs s s.heap) (hb : b < N0) {i : Nat} (hi : i + 5 ≤ L) (hL : L ≤ 2560) (hR : 12 + 1 ≤ R.frames ∧ 36 * (12 + 1) ≤ R.locals) (hC : 105 ≤ R.cells ∧ q_sl 105 ≤ R.slots) (hih : ∀ (sw : Bool) (gc : Nat) (I : Nat → Nat → Int32) (J : Nat → Nat → Int64), s_Rel sw gc I J → q_LW l D dA kv N0 p e s m args below meth co R Q (1029, [some (.float 14), some (.ref 0), some (.ref 62), some (.int (nI i))], [], qS sw gc I J)) {sw : Bool} {gc : Nat} {I : Nat → Nat → Int32} {J : Nat → Nat → Int64} (h : s_Rel sw gc I J) : q_LW l D dA kv N0 p e s m args below meth co R Q (814, [some (.float 14), some (.ref 0), some (.ref 62), some (.int (nI i))], [], qS sw gc I J) := by
  obtain ⟨r, sw2, gc2, I1, J1, I2, J2, hle, g1, g2, hRel⟩ := s_slates (xs (i + 1)) 0 sw gc I J h
  have h8 := hRel.2.2.2.1.1
  refine L_aload_n hX (x := .ref 0) rfl rfl rfl ?_
  refine L_arg hX hk hv hb (pc := 815) (j := 1) rfl rfl rfl rfl rfl rfl (by omega) hL ?_
  refine L_callV hX hR (M' := qS false 8 I J) hC (b := 0) (ci := 8) (as := [.int (xs (i + 1))]) (rest := []) rfl rfl rfl (q_lt (by decide)) (by decide) rfl rfl (Nat.le_of_ble_eq_true rfl) g1 (show 2 * gc2 + 89 ≤ 2 * 8 + 89 by omega) ?_
  refine L_nm (823, [some (.float 14), some (.ref 0), some (.ref 62), some (.int (nI i))], [.int r], qS sw2 gc2 I1 J1) rfl ?_
  refine L_aload_n hX (x := .ref 62) rfl rfl rfl ?_
  refine L_arg hX hk hv hb (pc := 824) (j := 1) rfl rfl rfl rfl rfl rfl (by omega) hL ?_
  refine L_callV hX hR (M' := qS false 8 I J) hC (b := 62) (ci := 9) (as := [.int (xs (i + 1))]) (rest := [.int r]) rfl rfl rfl (q_lt (by decide)) (by decide) rfl rfl (Nat.le_of_ble_eq_true rfl) g2 (show 2 * gc2 + 89 ≤ 2 * 8 + 89 by omega) ?_
  refine L_nm (832, [some (.float 14), some (.ref 0), some (.ref 62), some (.int (nI i))], [.int r, .int r], qS sw2 gc2 I2 J2) rfl ?_
  exact L_icmp_eq hX 1029 rfl rfl (fun _ => hih sw2 gc2 I2 J2 hRel) (fun h9 => absurd rfl h9)
theorem L_case19 {l : Launch} {D : va_G} {dA : Nat → ClassId} {kv : Nat → Value} {N0 : Nat} {p : Program} {e : Env} {s : State} {m : MethodId} {args : Array Value} {below : List Frame} {meth : Method} {co : Code} {R : Room} {Q : State → Prop} (hX : q_XL D dA kv N0 p s m args co) {b L : Nat} {xs : Nat → Int32} (hk : kv 14 = .ref b) (hv : va_X b L xs s s.heap) (hb : b < N0) {i : Nat} (hi : i + 5 ≤ L) (hL : L ≤ 2560) (hR : 12 + 1 ≤ R.frames ∧ 36 * (12 + 1) ≤ R.locals) (hC : 105 ≤ R.cells ∧ q_sl 105 ≤ R.slots) (hih : ∀ (sw : Bool) (gc : Nat) (I : Nat → Nat → Int32) (J : Nat → Nat → Int64), s_Rel sw gc I J → q_LW l D dA kv N0 p e s m args below meth co R Q (1029, [some (.float 14), some (.ref 0), some (.ref 62), some (.int (nI i))], [], qS sw gc I J)) {sw : Bool} {gc : Nat} {I : Nat → Nat → Int32} {J : Nat → Nat → Int64} (h : s_Rel sw gc I J) : q_LW l D dA kv N0 p e s m args below meth co R Q (837, [some (.float 14), some (.ref 0), some (.ref 62), some (.int (nI i))], [], qS sw gc I J) := by
  obtain ⟨r, sw2, gc2, I1, J1, I2, J2, hle, g1, g2, hRel⟩ := s_sheet (xs (i + 1)) (xs (i + 2)) (xs (i + 3)) 0 sw gc I J h
  have h8 := hRel.2.2.2.1.1
  refine L_aload_n hX (x := .ref 0) rfl rfl rfl ?_
  refine L_arg hX hk hv hb (pc := 838) (j := 1) rfl rfl rfl rfl rfl rfl (by omega) hL ?_
  refine L_arg hX hk hv hb (pc := 843) (j := 2) rfl rfl rfl rfl rfl rfl (by omega) hL ?_
  refine L_arg hX hk hv hb (pc := 848) (j := 3) rfl rfl rfl rfl rfl rfl (by omega) hL ?_
  refine L_callV hX hR (M' := qS false 8 I J) hC (b := 0) (ci := 8) (as := [.int (xs (i + 1)), .int (xs (i + 2)), .int (xs (i + 3))]) (rest := []) rfl rfl rfl (q_lt (by decide)) (by decide) rfl rfl (Nat.le_of_ble_eq_true rfl) g1 (show 2 * gc2 + 89 ≤ 2 * 8 + 89 by omega) ?_
  refine L_nm (856, [some (.float 14), some (.ref 0), some (.ref 62), some (.int (nI i))], [.int r], qS sw2 gc2 I1 J1) rfl ?_
  refine L_aload_n hX (x := .ref 62) rfl rfl rfl ?_
  refine L_arg hX hk hv hb (pc := 857) (j := 1) rfl rfl rfl rfl rfl rfl (by omega) hL ?_
  refine L_arg hX hk hv hb (pc := 862) (j := 2) rfl rfl rfl rfl rfl rfl (by omega) hL ?_
  refine L_arg hX hk hv hb (pc := 867) (j := 3) rfl rfl rfl rfl rfl rfl (by omega) hL ?_
  refine L_callV hX hR (M' := qS false 8 I J) hC (b := 62) (ci := 9) (as := [.int (xs (i + 1)), .int (xs (i + 2)), .int (xs (i + 3))]) (rest := [.int r]) rfl rfl rfl (q_lt (by decide)) (by decide) rfl rfl (Nat.le_of_ble_eq_true rfl) g2 (show 2 * gc2 + 89 ≤ 2 * 8 + 89 by omega) ?_
  refine L_nm (875, [some (.float 14), some (.ref 0), some (.ref 62), some (.int (nI i))], [.int r, .int r], qS sw2 gc2 I2 J2) rfl ?_
  exact L_icmp_eq hX 1029 rfl rfl (fun _ => hih sw2 gc2 I2 J2 hRel) (fun h9 => absurd rfl h9)
theorem L_case20 {l : Launch} {D : va_G} {dA : Nat → ClassId} {kv : Nat → Value} {N0 : Nat} {p : Program} {e : Env} {s : State} {m : MethodId} {args : Array Value} {below : List Frame} {meth : Method} {co : Code} {R : Room} {Q : State → Prop} (hX : q_XL D dA kv N0 p s m args co) {b L : Nat} {xs : Nat → Int32} (hk : kv 14 = .ref b) (hv : va_X b L xs s s.heap) (hb : b < N0) {i : Nat} (hi : i + 5 ≤ L) (hL : L ≤ 2560) (hR : 12 + 1 ≤ R.frames ∧ 36 * (12 + 1) ≤ R.locals) (hC : 105 ≤ R.cells ∧ q_sl 105 ≤ R.slots) (hih : ∀ (sw : Bool) (gc : Nat) (I : Nat → Nat → Int32) (J : Nat → Nat → Int64), s_Rel sw gc I J → q_LW l D dA kv N0 p e s m args below meth co R Q (1029, [some (.float 14), some (.ref 0), some (.ref 62), some (.int (nI i))], [], qS sw gc I J)) {sw : Bool} {gc : Nat} {I : Nat → Nat → Int32} {J : Nat → Nat → Int64} (h : s_Rel sw gc I J) : q_LW l D dA kv N0 p e s m args below meth co R Q (880, [some (.float 14), some (.ref 0), some (.ref 62), some (.int (nI i))], [], qS sw gc I J) := by
  obtain ⟨r, sw2, gc2, I1, J1, I2, J2, hle, g1, g2, hRel⟩ := s_lay (xs (i + 1)) (xs (i + 2)) (q_lg (xs (i + 3)) (xs (i + 3 + 1))) 0 sw gc I J h
  have h8 := hRel.2.2.2.1.1
  refine L_aload_n hX (x := .ref 0) rfl rfl rfl ?_
  refine L_arg hX hk hv hb (pc := 881) (j := 1) rfl rfl rfl rfl rfl rfl (by omega) hL ?_
  refine L_arg hX hk hv hb (pc := 886) (j := 2) rfl rfl rfl rfl rfl rfl (by omega) hL ?_
  refine L_long hX hk hv hb (pc := 891) (j := 3) rfl rfl rfl rfl rfl rfl rfl rfl rfl rfl rfl rfl rfl rfl rfl rfl rfl rfl rfl (by omega) hL ?_
  refine L_callV hX hR (M' := qS false 8 I J) hC (b := 0) (ci := 8) (as := [.int (xs (i + 1)), .int (xs (i + 2)), .long (q_lg (xs (i + 3)) (xs (i + 3 + 1)))]) (rest := []) rfl rfl rfl (q_lt (by decide)) (by decide) rfl rfl (Nat.le_of_ble_eq_true rfl) g1 (show 2 * gc2 + 89 ≤ 2 * 8 + 89 by omega) ?_
  refine L_nm (914, [some (.float 14), some (.ref 0), some (.ref 62), some (.int (nI i))], [.int r], qS sw2 gc2 I1 J1) rfl ?_
  refine L_aload_n hX (x := .ref 62) rfl rfl rfl ?_
  refine L_arg hX hk hv hb (pc := 915) (j := 1) rfl rfl rfl rfl rfl rfl (by omega) hL ?_
  refine L_arg hX hk hv hb (pc := 920) (j := 2) rfl rfl rfl rfl rfl rfl (by omega) hL ?_
  refine L_long hX hk hv hb (pc := 925) (j := 3) rfl rfl rfl rfl rfl rfl rfl rfl rfl rfl rfl rfl rfl rfl rfl rfl rfl rfl rfl (by omega) hL ?_
  refine L_callV hX hR (M' := qS false 8 I J) hC (b := 62) (ci := 9) (as := [.int (xs (i + 1)), .int (xs (i + 2)), .long (q_lg (xs (i + 3)) (xs (i + 3 + 1)))]) (rest := [.int r]) rfl rfl rfl (q_lt (by decide)) (by decide) rfl rfl (Nat.le_of_ble_eq_true rfl) g2 (show 2 * gc2 + 89 ≤ 2 * 8 + 89 by omega) ?_
  refine L_nm (948, [some (.float 14), some (.ref 0), some (.ref 62), some (.int (nI i))], [.int r, .int r], qS sw2 gc2 I2 J2) rfl ?_
  exact L_icmp_eq hX 1029 rfl rfl (fun _ => hih sw2 gc2 I2 J2 hRel) (fun h9 => absurd rfl h9)
theorem L_case21 {l : Launch} {D : va_G} {dA : Nat → ClassId} {kv : Nat → Value} {N0 : Nat} {p : Program} {e : Env} {s : State} {m : MethodId} {args : Array Value} {below : List Frame} {meth : Method} {co : Code} {R : Room} {Q : State → Prop} (hX : q_XL D dA kv N0 p s m args co) {b L : Nat} {xs : Nat → Int32} (hk : kv 14 = .ref b) (hv : va_X b L xs s s.heap) (hb : b < N0) {i : Nat} (hi : i + 5 ≤ L) (hL : L ≤ 2560) (hR : 12 + 1 ≤ R.frames ∧ 36 * (12 + 1) ≤ R.locals) (hC : 105 ≤ R.cells ∧ q_sl 105 ≤ R.slots) (hih : ∀ (sw : Bool) (gc : Nat) (I : Nat → Nat → Int32) (J : Nat → Nat → Int64), s_Rel sw gc I J → q_LW l D dA kv N0 p e s m args below meth co R Q (1029, [some (.float 14), some (.ref 0), some (.ref 62), some (.int (nI i))], [], qS sw gc I J)) {sw : Bool} {gc : Nat} {I : Nat → Nat → Int32} {J : Nat → Nat → Int64} (h : s_Rel sw gc I J) : q_LW l D dA kv N0 p e s m args below meth co R Q (953, [some (.float 14), some (.ref 0), some (.ref 62), some (.int (nI i))], [], qS sw gc I J) := by
  obtain ⟨r, sw2, gc2, I1, J1, I2, J2, hle, g1, g2, hRel⟩ := s_haul (xs (i + 1)) (xs (i + 2)) (xs (i + 3)) (xs (i + 4)) 0 sw gc I J h
  have h8 := hRel.2.2.2.1.1
  refine L_aload_n hX (x := .ref 0) rfl rfl rfl ?_
  refine L_arg hX hk hv hb (pc := 954) (j := 1) rfl rfl rfl rfl rfl rfl (by omega) hL ?_
  refine L_arg hX hk hv hb (pc := 959) (j := 2) rfl rfl rfl rfl rfl rfl (by omega) hL ?_
  refine L_arg hX hk hv hb (pc := 964) (j := 3) rfl rfl rfl rfl rfl rfl (by omega) hL ?_
  refine L_arg hX hk hv hb (pc := 969) (j := 4) rfl rfl rfl rfl rfl rfl (by omega) hL ?_
  refine L_callV hX hR (M' := qS false 8 I J) hC (b := 0) (ci := 8) (as := [.int (xs (i + 1)), .int (xs (i + 2)), .int (xs (i + 3)), .int (xs (i + 4))]) (rest := []) rfl rfl rfl (q_lt (by decide)) (by decide) rfl rfl (Nat.le_of_ble_eq_true rfl) g1 (show 2 * gc2 + 89 ≤ 2 * 8 + 89 by omega) ?_
  refine L_nm (977, [some (.float 14), some (.ref 0), some (.ref 62), some (.int (nI i))], [.int r], qS sw2 gc2 I1 J1) rfl ?_
  refine L_aload_n hX (x := .ref 62) rfl rfl rfl ?_
  refine L_arg hX hk hv hb (pc := 978) (j := 1) rfl rfl rfl rfl rfl rfl (by omega) hL ?_
  refine L_arg hX hk hv hb (pc := 983) (j := 2) rfl rfl rfl rfl rfl rfl (by omega) hL ?_
  refine L_arg hX hk hv hb (pc := 988) (j := 3) rfl rfl rfl rfl rfl rfl (by omega) hL ?_
  refine L_arg hX hk hv hb (pc := 993) (j := 4) rfl rfl rfl rfl rfl rfl (by omega) hL ?_
  refine L_callV hX hR (M' := qS false 8 I J) hC (b := 62) (ci := 9) (as := [.int (xs (i + 1)), .int (xs (i + 2)), .int (xs (i + 3)), .int (xs (i + 4))]) (rest := [.int r]) rfl rfl rfl (q_lt (by decide)) (by decide) rfl rfl (Nat.le_of_ble_eq_true rfl) g2 (show 2 * gc2 + 89 ≤ 2 * 8 + 89 by omega) ?_
  refine L_nm (1001, [some (.float 14), some (.ref 0), some (.ref 62), some (.int (nI i))], [.int r, .int r], qS sw2 gc2 I2 J2) rfl ?_
  exact L_icmp_eq hX 1029 rfl rfl (fun _ => hih sw2 gc2 I2 J2 hRel) (fun h9 => absurd rfl h9)
theorem L_case22 {l : Launch} {D : va_G} {dA : Nat → ClassId} {kv : Nat → Value} {N0 : Nat} {p : Program} {e : Env} {s : State} {m : MethodId} {args : Array Value} {below : List Frame} {meth : Method} {co : Code} {R : Room} {Q : State → Prop} (hX : q_XL D dA kv N0 p s m args co) {b L : Nat} {xs : Nat → Int32} (hk : kv 14 = .ref b) (hv : va_X b L xs s s.heap) (hb : b < N0) {i : Nat} (hi : i + 5 ≤ L) (hL : L ≤ 2560) (hR : 12 + 1 ≤ R.frames ∧ 36 * (12 + 1) ≤ R.locals) (hC : 105 ≤ R.cells ∧ q_sl 105 ≤ R.slots) (hih : ∀ (sw : Bool) (gc : Nat) (I : Nat → Nat → Int32) (J : Nat → Nat → Int64), s_Rel sw gc I J → q_LW l D dA kv N0 p e s m args below meth co R Q (1029, [some (.float 14), some (.ref 0), some (.ref 62), some (.int (nI i))], [], qS sw gc I J)) {sw : Bool} {gc : Nat} {I : Nat → Nat → Int32} {J : Nat → Nat → Int64} (h : s_Rel sw gc I J) : q_LW l D dA kv N0 p e s m args below meth co R Q (1006, [some (.float 14), some (.ref 0), some (.ref 62), some (.int (nI i))], [], qS sw gc I J) := by
  obtain ⟨r, sw2, gc2, I1, J1, I2, J2, hle, g1, g2, hRel⟩ := s_count (xs (i + 1)) 0 sw gc I J h
  have h8 := hRel.2.2.2.1.1
  refine L_aload_n hX (x := .ref 0) rfl rfl rfl ?_
  refine L_arg hX hk hv hb (pc := 1007) (j := 1) rfl rfl rfl rfl rfl rfl (by omega) hL ?_
  refine L_callV hX hR (M' := qS false 8 I J) hC (b := 0) (ci := 8) (as := [.int (xs (i + 1))]) (rest := []) rfl rfl rfl (q_lt (by decide)) (by decide) rfl rfl (Nat.le_of_ble_eq_true rfl) g1 (show 2 * gc2 + 89 ≤ 2 * 8 + 89 by omega) ?_
  refine L_nm (1015, [some (.float 14), some (.ref 0), some (.ref 62), some (.int (nI i))], [.int r], qS sw2 gc2 I1 J1) rfl ?_
  refine L_aload_n hX (x := .ref 62) rfl rfl rfl ?_
  refine L_arg hX hk hv hb (pc := 1016) (j := 1) rfl rfl rfl rfl rfl rfl (by omega) hL ?_
  refine L_callV hX hR (M' := qS false 8 I J) hC (b := 62) (ci := 9) (as := [.int (xs (i + 1))]) (rest := [.int r]) rfl rfl rfl (q_lt (by decide)) (by decide) rfl rfl (Nat.le_of_ble_eq_true rfl) g2 (show 2 * gc2 + 89 ≤ 2 * 8 + 89 by omega) ?_
  refine L_nm (1024, [some (.float 14), some (.ref 0), some (.ref 62), some (.int (nI i))], [.int r, .int r], qS sw2 gc2 I2 J2) rfl ?_
  exact L_icmp_eq hX 1029 rfl rfl (fun _ => hih sw2 gc2 I2 J2 hRel) (fun h9 => absurd rfl h9)
theorem L_loop {l : Launch} {D : va_G} {dA : Nat → ClassId} {kv : Nat → Value} {N0 : Nat} {p : Program} {e : Env} {s : State} {m : MethodId} {args : Array Value} {below : List Frame} {meth : Method} {co : Code} {R : Room} {Q : State → Prop} (hX : q_XL D dA kv N0 p s m args co) {b L : Nat} {xs : Nat → Int32} (hk : kv 14 = .ref b) (hv : va_X b L xs s s.heap) (hb : b < N0) (hL : L ≤ 2560) (hR : 12 + 1 ≤ R.frames ∧ 36 * (12 + 1) ≤ R.locals) (hC : 105 ≤ R.cells ∧ q_sl 105 ≤ R.slots) (hend : ∀ (ll : List (Option Value)) (M : qM), q_n M ≤ 105 → q_LW l D dA kv N0 p e s m args below meth co R Q (1036, ll, [.int 1], M)) : ∀ (n i : Nat) (sw : Bool) (gc : Nat) (I : Nat → Nat → Int32) (J : Nat → Nat → Int64), L < i + 5 + n → i ≤ 3000 → s_Rel sw gc I J → q_LW l D dA kv N0 p e s m args below meth co R Q (18, [some (.float 14), some (.ref 0), some (.ref 62), some (.int (nI i))], [], qS sw gc I J) := by
  intro n
  induction n with
  | zero =>
    intro i sw gc I J hn hi h
    have h8 := h.2.2.2.1.1
    refine L_iload_n hX (x := nI i) rfl rfl ?_
    refine L_aload_n hX (x := .float 14) rfl rfl rfl ?_
    refine L_slen hX hk hv hb rfl ?_
    refine L_iconst hX rfl ?_
    refine L_isub hX rfl ?_
    refine L_icmp_gt hX 1035 rfl rfl (fun _ => ?_) (fun h9 => absurd (q_L5 hL hi (by omega)) h9)
    refine L_iconst hX rfl ?_
    exact hend _ _ (show 2 * gc + 89 ≤ 105 by omega)
  | succ n ih =>
    intro i sw gc I J hn hi h
    have h8 := h.2.2.2.1.1
    refine L_iload_n hX (x := nI i) rfl rfl ?_
    refine L_aload_n hX (x := .float 14) rfl rfl rfl ?_
    refine L_slen hX hk hv hb rfl ?_
    refine L_iconst hX rfl ?_
    refine L_isub hX rfl ?_
    by_cases hlt : L < i + 5
    · refine L_icmp_gt hX 1035 rfl rfl (fun _ => ?_) (fun h9 => absurd (q_L5 hL hi hlt) h9)
      refine L_iconst hX rfl ?_
      exact hend _ _ (show 2 * gc + 89 ≤ 105 by omega)
    · have hnlt : ¬ nI L - 5 < nI i := by
        rw [show nI L - 5 = nI (L - 5) from q_subP (b := 5) rfl rfl (by omega)]
        exact nI_nlt (by omega) (by omega)
      have hih : ∀ (sw : Bool) (gc : Nat) (I : Nat → Nat → Int32) (J : Nat → Nat → Int64), s_Rel sw gc I J → q_LW l D dA kv N0 p e s m args below meth co R Q (1029, [some (.float 14), some (.ref 0), some (.ref 62), some (.int (nI i))], [], qS sw gc I J) := by
        intro sw gc I J h
        refine L_iinc hX (x := nI i) rfl rfl ?_
        refine L_goto hX 18 rfl rfl ?_
        have h9 := ih (i + 5) sw gc I J (by omega) (by omega) h
        rw [show nI (i + 5) = nI i + Int32.ofInt 5 from (q_addP rfl rfl).symm] at h9
        exact h9
      refine L_icmp_gt hX 1035 rfl rfl (fun h9 => absurd h9 hnlt) (fun _ => ?_)
      refine L_aload_n hX (x := .float 14) rfl rfl rfl ?_
      refine L_iload_n hX (x := nI i) rfl rfl ?_
      refine L_sald hX hk hv hb rfl (vp_in_nI (by omega) (by omega)) ?_
      refine L_bipush hX rfl ?_
      refine L_iand hX rfl ?_
      generalize xs (nI i).toNatClampNeg &&& (Int8.ofInt 31).toInt32 = x
      rcases q_ix x (n := 23) (by decide) with ⟨j, hj, rfl⟩ | hx
      · rcases (show j = 0 ∨ j = 1 ∨ j = 2 ∨ j = 3 ∨ j = 4 ∨ j = 5 ∨ j = 6 ∨ j = 7 ∨ j = 8 ∨ j = 9 ∨ j = 10 ∨ j = 11 ∨ j = 12 ∨ j = 13 ∨ j = 14 ∨ j = 15 ∨ j = 16 ∨ j = 17 ∨ j = 18 ∨ j = 19 ∨ j = 20 ∨ j = 21 ∨ j = 22 by omega) with rfl | rfl | rfl | rfl | rfl | rfl | rfl | rfl | rfl | rfl | rfl | rfl | rfl | rfl | rfl | rfl | rfl | rfl | rfl | rfl | rfl | rfl | rfl
        · exact L_tsIn hX (off := 108) 140 rfl (by decide) (by decide) rfl rfl (L_case0 hX hk hv hb (by omega) hL hR hC hih h)
        · exact L_tsIn hX (off := 161) 193 rfl (by decide) (by decide) rfl rfl (L_case1 hX hk hv hb (by omega) hL hR hC hih h)
        · exact L_tsIn hX (off := 184) 216 rfl (by decide) (by decide) rfl rfl (L_case2 hX hk hv hb (by omega) hL hR hC hih h)
        · exact L_tsIn hX (off := 197) 229 rfl (by decide) (by decide) rfl rfl (L_case3 hX hk hv hb (by omega) hL hR hC hih h)
        · exact L_tsIn hX (off := 210) 242 rfl (by decide) (by decide) rfl rfl (L_case4 hX hk hv hb (by omega) hL hR hC hih h)
        · exact L_tsIn hX (off := 233) 265 rfl (by decide) (by decide) rfl rfl (L_case5 hX hk hv hb (by omega) hL hR hC hih h)
        · exact L_tsIn hX (off := 276) 308 rfl (by decide) (by decide) rfl rfl (L_case6 hX hk hv hb (by omega) hL hR hC hih h)
        · exact L_tsIn hX (off := 319) 351 rfl (by decide) (by decide) rfl rfl (L_case7 hX hk hv hb (by omega) hL hR hC hih h)
        · exact L_tsIn hX (off := 362) 394 rfl (by decide) (by decide) rfl rfl (L_case8 hX hk hv hb (by omega) hL hR hC hih h)
        · exact L_tsIn hX (off := 385) 417 rfl (by decide) (by decide) rfl rfl (L_case9 hX hk hv hb (by omega) hL hR hC hih h)
        · exact L_tsIn hX (off := 418) 450 rfl (by decide) (by decide) rfl rfl (L_case10 hX hk hv hb (by omega) hL hR hC hih h)
        · exact L_tsIn hX (off := 461) 493 rfl (by decide) (by decide) rfl rfl (L_case11 hX hk hv hb (by omega) hL hR hC hih h)
        · exact L_tsIn hX (off := 514) 546 rfl (by decide) (by decide) rfl rfl (L_case12 hX hk hv hb (by omega) hL hR hC hih h)
        · exact L_tsIn hX (off := 527) 559 rfl (by decide) (by decide) rfl rfl (L_case13 hX hk hv hb (by omega) hL hR hC hih h)
        · exact L_tsIn hX (off := 540) 572 rfl (by decide) (by decide) rfl rfl (L_case14 hX hk hv hb (by omega) hL hR hC hih h)
        · exact L_tsIn hX (off := 573) 605 rfl (by decide) (by decide) rfl rfl (L_case15 hX hk hv hb (by omega) hL hR hC hih h)
        · exact L_tsIn hX (off := 636) 668 rfl (by decide) (by decide) rfl rfl (L_case16 hX hk hv hb (by omega) hL hR hC hih h)
        · exact L_tsIn hX (off := 709) 741 rfl (by decide) (by decide) rfl rfl (L_case17 hX hk hv hb (by omega) hL hR hC hih h)
        · exact L_tsIn hX (off := 782) 814 rfl (by decide) (by decide) rfl rfl (L_case18 hX hk hv hb (by omega) hL hR hC hih h)
        · exact L_tsIn hX (off := 805) 837 rfl (by decide) (by decide) rfl rfl (L_case19 hX hk hv hb (by omega) hL hR hC hih h)
        · exact L_tsIn hX (off := 848) 880 rfl (by decide) (by decide) rfl rfl (L_case20 hX hk hv hb (by omega) hL hR hC hih h)
        · exact L_tsIn hX (off := 921) 953 rfl (by decide) (by decide) rfl rfl (L_case21 hX hk hv hb (by omega) hL hR hC hih h)
        · exact L_tsIn hX (off := 974) 1006 rfl (by decide) (by decide) rfl rfl (L_case22 hX hk hv hb (by omega) hL hR hC hih h)
      · refine L_tsOut hX 1029 rfl ?_ rfl (hih sw gc I J h)
        rcases hx with h9 | h9
        · left
          rw [q_lt_int] at h9
          exact h9
        · right
          rw [q_le_int, show (nI 23).toInt = 23 from rfl] at h9
          omega
