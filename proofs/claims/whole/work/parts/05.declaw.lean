theorem q_dl0 : (List.range' 0 40).all (fun pc => q_chk cL_law (q_gL_law pc) pc) = true := by decide +kernel
theorem q_dl1 : (List.range' 40 40).all (fun pc => q_chk cL_law (q_gL_law pc) pc) = true := by decide +kernel
theorem q_dl2 : (List.range' 80 40).all (fun pc => q_chk cL_law (q_gL_law pc) pc) = true := by decide +kernel
theorem q_dl3 : (List.range' 120 40).all (fun pc => q_chk cL_law (q_gL_law pc) pc) = true := by decide +kernel
theorem q_dl4 : (List.range' 160 40).all (fun pc => q_chk cL_law (q_gL_law pc) pc) = true := by decide +kernel
theorem q_dl5 : (List.range' 200 40).all (fun pc => q_chk cL_law (q_gL_law pc) pc) = true := by decide +kernel
theorem q_dl6 : (List.range' 240 40).all (fun pc => q_chk cL_law (q_gL_law pc) pc) = true := by decide +kernel
theorem q_dl7 : (List.range' 280 40).all (fun pc => q_chk cL_law (q_gL_law pc) pc) = true := by decide +kernel
theorem q_dl8 : (List.range' 320 40).all (fun pc => q_chk cL_law (q_gL_law pc) pc) = true := by decide +kernel
theorem q_dl9 : (List.range' 360 40).all (fun pc => q_chk cL_law (q_gL_law pc) pc) = true := by decide +kernel
theorem q_dl10 : (List.range' 400 40).all (fun pc => q_chk cL_law (q_gL_law pc) pc) = true := by decide +kernel
theorem q_dl11 : (List.range' 440 40).all (fun pc => q_chk cL_law (q_gL_law pc) pc) = true := by decide +kernel
theorem q_dl12 : (List.range' 480 40).all (fun pc => q_chk cL_law (q_gL_law pc) pc) = true := by decide +kernel
theorem q_dl13 : (List.range' 520 40).all (fun pc => q_chk cL_law (q_gL_law pc) pc) = true := by decide +kernel
theorem q_dl14 : (List.range' 560 40).all (fun pc => q_chk cL_law (q_gL_law pc) pc) = true := by decide +kernel
theorem q_dl15 : (List.range' 600 40).all (fun pc => q_chk cL_law (q_gL_law pc) pc) = true := by decide +kernel
theorem q_dl16 : (List.range' 640 40).all (fun pc => q_chk cL_law (q_gL_law pc) pc) = true := by decide +kernel
theorem q_dl17 : (List.range' 680 40).all (fun pc => q_chk cL_law (q_gL_law pc) pc) = true := by decide +kernel
theorem q_dl18 : (List.range' 720 40).all (fun pc => q_chk cL_law (q_gL_law pc) pc) = true := by decide +kernel
theorem q_dl19 : (List.range' 760 40).all (fun pc => q_chk cL_law (q_gL_law pc) pc) = true := by decide +kernel
theorem q_dl20 : (List.range' 800 40).all (fun pc => q_chk cL_law (q_gL_law pc) pc) = true := by decide +kernel
theorem q_dl21 : (List.range' 840 40).all (fun pc => q_chk cL_law (q_gL_law pc) pc) = true := by decide +kernel
theorem q_dl22 : (List.range' 880 40).all (fun pc => q_chk cL_law (q_gL_law pc) pc) = true := by decide +kernel
theorem q_dl23 : (List.range' 920 40).all (fun pc => q_chk cL_law (q_gL_law pc) pc) = true := by decide +kernel
theorem q_dl24 : (List.range' 960 40).all (fun pc => q_chk cL_law (q_gL_law pc) pc) = true := by decide +kernel
theorem q_dl25 : (List.range' 1000 37).all (fun pc => q_chk cL_law (q_gL_law pc) pc) = true := by decide +kernel
theorem q_dlr {a n pc : Nat} (h : (List.range' a n).all (fun pc => q_chk cL_law (q_gL_law pc) pc) = true) (h1 : a ≤ pc) (h2 : pc < a + n) : q_chk cL_law (q_gL_law pc) pc = true := List.all_eq_true.mp h pc (List.mem_range'_1.mpr ⟨h1, h2⟩)
theorem q_dly {pc : Nat} (h : pc < 1037) : q_chk cL_law (q_gL_law pc) pc = true := by
  by_cases h0 : pc < 40
  · exact q_dlr q_dl0 (by omega) (by omega)
  by_cases h1 : pc < 80
  · exact q_dlr q_dl1 (by omega) (by omega)
  by_cases h2 : pc < 120
  · exact q_dlr q_dl2 (by omega) (by omega)
  by_cases h3 : pc < 160
  · exact q_dlr q_dl3 (by omega) (by omega)
  by_cases h4 : pc < 200
  · exact q_dlr q_dl4 (by omega) (by omega)
  by_cases h5 : pc < 240
  · exact q_dlr q_dl5 (by omega) (by omega)
  by_cases h6 : pc < 280
  · exact q_dlr q_dl6 (by omega) (by omega)
  by_cases h7 : pc < 320
  · exact q_dlr q_dl7 (by omega) (by omega)
  by_cases h8 : pc < 360
  · exact q_dlr q_dl8 (by omega) (by omega)
  by_cases h9 : pc < 400
  · exact q_dlr q_dl9 (by omega) (by omega)
  by_cases h10 : pc < 440
  · exact q_dlr q_dl10 (by omega) (by omega)
  by_cases h11 : pc < 480
  · exact q_dlr q_dl11 (by omega) (by omega)
  by_cases h12 : pc < 520
  · exact q_dlr q_dl12 (by omega) (by omega)
  by_cases h13 : pc < 560
  · exact q_dlr q_dl13 (by omega) (by omega)
  by_cases h14 : pc < 600
  · exact q_dlr q_dl14 (by omega) (by omega)
  by_cases h15 : pc < 640
  · exact q_dlr q_dl15 (by omega) (by omega)
  by_cases h16 : pc < 680
  · exact q_dlr q_dl16 (by omega) (by omega)
  by_cases h17 : pc < 720
  · exact q_dlr q_dl17 (by omega) (by omega)
  by_cases h18 : pc < 760
  · exact q_dlr q_dl18 (by omega) (by omega)
  by_cases h19 : pc < 800
  · exact q_dlr q_dl19 (by omega) (by omega)
  by_cases h20 : pc < 840
  · exact q_dlr q_dl20 (by omega) (by omega)
  by_cases h21 : pc < 880
  · exact q_dlr q_dl21 (by omega) (by omega)
  by_cases h22 : pc < 920
  · exact q_dlr q_dl22 (by omega) (by omega)
  by_cases h23 : pc < 960
  · exact q_dlr q_dl23 (by omega) (by omega)
  by_cases h24 : pc < 1000
  · exact q_dlr q_dl24 (by omega) (by omega)
  exact q_dlr q_dl25 (by omega) (by omega)
theorem q_dec {y pc : Nat} {v : Instr × Nat} (h : q_pg y pc = some v) : decode (q_cb y) pc = .ok v := by
  have hy : y < 162 := q_ylt h
  by_cases hl : y < 161
  · exact q_decA hl h
  · have e : y = 161 := by omega
    subst e
    have h1 : pc < 1037 := q_dlt h
    have h2 := q_dly h1
    rw [q_pgu hy] at h
    cases hb : Nat.ble (q_len 161) pc with
    | true => rw [hb] at h; cases h
    | false =>
      rw [hb] at h
      have h4 : q_gL_law pc = some v := h
      rw [h4] at h2
      have e2 : q_cb 161 = cL_law := rfl
      rw [e2]
      exact q_chk_some h2
