def c9r (rf : Nat → Nat → Option Nat) : Nat → Nat → Option Nat := q_u (q_z (q_u (q_z (q_u (q_z (q_u (q_z (q_u (q_z (q_u (q_z (q_u (q_z (q_u (q_z (q_u (q_z (q_u (q_z (q_u (q_z (q_u (q_z (q_u (q_z (q_u (q_z (q_u (q_z (q_u (q_z (q_u (q_z (q_u (q_z (q_u (q_z (q_u (q_z (q_u (q_z (q_u (q_z (q_u (q_z (q_u (q_z (q_u (q_z (q_u (q_z rf 63 none) 62 0 (some 63)) 64 none) 62 8 (some 64)) 65 none) 62 10 (some 65)) 66 none) 62 11 (some 66)) 67 none) 62 12 (some 67)) 68 none) 62 14 (some 68)) 69 none) 62 15 (some 69)) 70 none) 62 16 (some 70)) 71 none) 62 17 (some 71)) 72 none) 62 18 (some 72)) 73 none) 62 19 (some 73)) 74 none) 62 21 (some 74)) 75 none) 62 22 (some 75)) 76 none) 62 23 (some 76)) 77 none) 62 24 (some 77)) 78 none) 62 25 (some 78)) 79 none) 62 26 (some 79)) 80 none) 62 27 (some 80)) 81 none) 62 28 (some 81)) 82 none) 62 33 (some 82)) 83 none) 62 34 (some 83)) 84 none) 62 35 (some 84)) 85 none) 62 38 (some 85)) 86 none) 62 39 (some 86)) 87 none) 62 40 (some 87)) 88 none) 62 41 (some 88)
def c9a (I : Nat → Nat → Int32) : Nat → Nat → Int32 := (q_z (q_z (q_z (q_z (q_z (q_z (q_z (q_z (q_z (q_z (q_z (q_z (q_z (q_z (q_z (q_z (q_z (q_z (q_z (q_z (q_z (q_z (q_z (q_z (q_z (q_z I 63 0) 64 0) 65 0) 66 0) 67 0) 68 0) 69 0) 70 0) 71 0) 72 0) 73 0) 74 0) 75 0) 76 0) 77 0) 78 0) 79 0) 80 0) 81 0) 82 0) 83 0) 84 0) 85 0) 86 0) 87 0) 88 0)
def c9j (J : Nat → Nat → Int64) : Nat → Nat → Int64 := (q_z (q_z (q_z (q_z (q_z (q_z (q_z (q_z (q_z (q_z (q_z (q_z (q_z (q_z (q_z (q_z (q_z (q_z (q_z (q_z (q_z (q_z (q_z (q_z (q_z (q_z J 63 0) 64 0) 65 0) 66 0) 67 0) 68 0) 69 0) 70 0) 71 0) 72 0) 73 0) 74 0) 75 0) 76 0) 77 0) 78 0) 79 0) 80 0) 81 0) 82 0) 83 0) 84 0) 85 0) 86 0) 87 0) 88 0)
theorem c9_a {d : Nat} {rf : Nat → Nat → Option Nat} {I : Nat → Nat → Int32} {J : Nat → Nat → Int64} {I2 : Nat → Nat → Int32} (H : G (d + 1) 98 (209, [some (.ref 62), some (.int 0)], [], ((89, c9r rf), (c9a I, c9j J))) none ((89, c9r rf), (I2, c9j J))) : GM (d + 1) 98 [.ref 62] ((63, rf), (I, J)) none ((89, c9r rf), (I2, c9j J)) := by
  refine GM_of (by decide) (Nat.le_of_ble_eq_true rfl) (Nat.le_of_ble_eq_true rfl) trivial ?_
  refine G_st (L := 63) (k := 1) (1, [some (.ref 62), none], [.ref 62], ((63, rf), (I, J))) (Nat.le_refl _) rfl ?_
  refine G_oinit rfl (by decide) (by omega) (Nat.le_of_ble_eq_true rfl) ?_
  refine G_st (L := 63) (k := 2) (8, [some (.ref 62), none], [.int 200, .ref 62], ((63, rf), (I, J))) (Nat.le_refl _) rfl ?_
  refine G_newarr (t := 0) (len := 200) rfl rfl (by decide) rfl (by decide) rfl (by decide) (Nat.le_of_ble_eq_true rfl) ?_
  refine G_st (L := 64) (k := 3) (15, [some (.ref 62), none], [.int 4, .ref 62], ((64, q_u (q_z rf 63 none) 62 0 (some 63)), ((q_z I 63 0), (q_z J 63 0)))) (Nat.le_refl _) rfl ?_
  refine G_newarr (t := 0) (len := 4) rfl rfl (by decide) rfl (by decide) rfl (by decide) (Nat.le_of_ble_eq_true rfl) ?_
  refine G_st (L := 65) (k := 3) (22, [some (.ref 62), none], [.int 4, .ref 62], ((65, q_u (q_z (q_u (q_z rf 63 none) 62 0 (some 63)) 64 none) 62 8 (some 64)), ((q_z (q_z I 63 0) 64 0), (q_z (q_z J 63 0) 64 0)))) (Nat.le_refl _) rfl ?_
  refine G_newarr (t := 0) (len := 4) rfl rfl (by decide) rfl (by decide) rfl (by decide) (Nat.le_of_ble_eq_true rfl) ?_
  refine G_st (L := 66) (k := 3) (29, [some (.ref 62), none], [.int 4, .ref 62], ((66, q_u (q_z (q_u (q_z (q_u (q_z rf 63 none) 62 0 (some 63)) 64 none) 62 8 (some 64)) 65 none) 62 10 (some 65)), ((q_z (q_z (q_z I 63 0) 64 0) 65 0), (q_z (q_z (q_z J 63 0) 64 0) 65 0)))) (Nat.le_refl _) rfl ?_
  refine G_newarr (t := 0) (len := 4) rfl rfl (by decide) rfl (by decide) rfl (by decide) (Nat.le_of_ble_eq_true rfl) ?_
  refine G_st (L := 67) (k := 3) (36, [some (.ref 62), none], [.int 4, .ref 62], ((67, q_u (q_z (q_u (q_z (q_u (q_z (q_u (q_z rf 63 none) 62 0 (some 63)) 64 none) 62 8 (some 64)) 65 none) 62 10 (some 65)) 66 none) 62 11 (some 66)), ((q_z (q_z (q_z (q_z I 63 0) 64 0) 65 0) 66 0), (q_z (q_z (q_z (q_z J 63 0) 64 0) 65 0) 66 0)))) (Nat.le_refl _) rfl ?_
  refine G_newarr (t := 0) (len := 4) rfl rfl (by decide) rfl (by decide) rfl (by decide) (Nat.le_of_ble_eq_true rfl) ?_
  refine G_st (L := 68) (k := 3) (43, [some (.ref 62), none], [.int 4, .ref 62], ((68, q_u (q_z (q_u (q_z (q_u (q_z (q_u (q_z (q_u (q_z rf 63 none) 62 0 (some 63)) 64 none) 62 8 (some 64)) 65 none) 62 10 (some 65)) 66 none) 62 11 (some 66)) 67 none) 62 12 (some 67)), ((q_z (q_z (q_z (q_z (q_z I 63 0) 64 0) 65 0) 66 0) 67 0), (q_z (q_z (q_z (q_z (q_z J 63 0) 64 0) 65 0) 66 0) 67 0)))) (Nat.le_refl _) rfl ?_
  refine G_newarr (t := 0) (len := 4) rfl rfl (by decide) rfl (by decide) rfl (by decide) (Nat.le_of_ble_eq_true rfl) ?_
  refine G_st (L := 69) (k := 3) (50, [some (.ref 62), none], [.int 4, .ref 62], ((69, q_u (q_z (q_u (q_z (q_u (q_z (q_u (q_z (q_u (q_z (q_u (q_z rf 63 none) 62 0 (some 63)) 64 none) 62 8 (some 64)) 65 none) 62 10 (some 65)) 66 none) 62 11 (some 66)) 67 none) 62 12 (some 67)) 68 none) 62 14 (some 68)), ((q_z (q_z (q_z (q_z (q_z (q_z I 63 0) 64 0) 65 0) 66 0) 67 0) 68 0), (q_z (q_z (q_z (q_z (q_z (q_z J 63 0) 64 0) 65 0) 66 0) 67 0) 68 0)))) (Nat.le_refl _) rfl ?_
  refine G_newarr (t := 0) (len := 4) rfl rfl (by decide) rfl (by decide) rfl (by decide) (Nat.le_of_ble_eq_true rfl) ?_
  refine G_st (L := 70) (k := 3) (58, [some (.ref 62), none], [.int 30, .ref 62], ((70, q_u (q_z (q_u (q_z (q_u (q_z (q_u (q_z (q_u (q_z (q_u (q_z (q_u (q_z rf 63 none) 62 0 (some 63)) 64 none) 62 8 (some 64)) 65 none) 62 10 (some 65)) 66 none) 62 11 (some 66)) 67 none) 62 12 (some 67)) 68 none) 62 14 (some 68)) 69 none) 62 15 (some 69)), ((q_z (q_z (q_z (q_z (q_z (q_z (q_z I 63 0) 64 0) 65 0) 66 0) 67 0) 68 0) 69 0), (q_z (q_z (q_z (q_z (q_z (q_z (q_z J 63 0) 64 0) 65 0) 66 0) 67 0) 68 0) 69 0)))) (Nat.le_refl _) rfl ?_
  refine G_newarr (t := 0) (len := 30) rfl rfl (by decide) rfl (by decide) rfl (by decide) (Nat.le_of_ble_eq_true rfl) ?_
  refine G_st (L := 71) (k := 3) (66, [some (.ref 62), none], [.int 30, .ref 62], ((71, q_u (q_z (q_u (q_z (q_u (q_z (q_u (q_z (q_u (q_z (q_u (q_z (q_u (q_z (q_u (q_z rf 63 none) 62 0 (some 63)) 64 none) 62 8 (some 64)) 65 none) 62 10 (some 65)) 66 none) 62 11 (some 66)) 67 none) 62 12 (some 67)) 68 none) 62 14 (some 68)) 69 none) 62 15 (some 69)) 70 none) 62 16 (some 70)), ((q_z (q_z (q_z (q_z (q_z (q_z (q_z (q_z I 63 0) 64 0) 65 0) 66 0) 67 0) 68 0) 69 0) 70 0), (q_z (q_z (q_z (q_z (q_z (q_z (q_z (q_z J 63 0) 64 0) 65 0) 66 0) 67 0) 68 0) 69 0) 70 0)))) (Nat.le_refl _) rfl ?_
  refine G_newarr (t := 0) (len := 30) rfl rfl (by decide) rfl (by decide) rfl (by decide) (Nat.le_of_ble_eq_true rfl) ?_
  refine G_st (L := 72) (k := 3) (74, [some (.ref 62), none], [.int 30, .ref 62], ((72, q_u (q_z (q_u (q_z (q_u (q_z (q_u (q_z (q_u (q_z (q_u (q_z (q_u (q_z (q_u (q_z (q_u (q_z rf 63 none) 62 0 (some 63)) 64 none) 62 8 (some 64)) 65 none) 62 10 (some 65)) 66 none) 62 11 (some 66)) 67 none) 62 12 (some 67)) 68 none) 62 14 (some 68)) 69 none) 62 15 (some 69)) 70 none) 62 16 (some 70)) 71 none) 62 17 (some 71)), ((q_z (q_z (q_z (q_z (q_z (q_z (q_z (q_z (q_z I 63 0) 64 0) 65 0) 66 0) 67 0) 68 0) 69 0) 70 0) 71 0), (q_z (q_z (q_z (q_z (q_z (q_z (q_z (q_z (q_z J 63 0) 64 0) 65 0) 66 0) 67 0) 68 0) 69 0) 70 0) 71 0)))) (Nat.le_refl _) rfl ?_
  refine G_newarr (t := 1) (len := 30) rfl rfl (by decide) rfl (by decide) rfl (by decide) (Nat.le_of_ble_eq_true rfl) ?_
  refine G_st (L := 73) (k := 3) (82, [some (.ref 62), none], [.int 30, .ref 62], ((73, q_u (q_z (q_u (q_z (q_u (q_z (q_u (q_z (q_u (q_z (q_u (q_z (q_u (q_z (q_u (q_z (q_u (q_z (q_u (q_z rf 63 none) 62 0 (some 63)) 64 none) 62 8 (some 64)) 65 none) 62 10 (some 65)) 66 none) 62 11 (some 66)) 67 none) 62 12 (some 67)) 68 none) 62 14 (some 68)) 69 none) 62 15 (some 69)) 70 none) 62 16 (some 70)) 71 none) 62 17 (some 71)) 72 none) 62 18 (some 72)), ((q_z (q_z (q_z (q_z (q_z (q_z (q_z (q_z (q_z (q_z I 63 0) 64 0) 65 0) 66 0) 67 0) 68 0) 69 0) 70 0) 71 0) 72 0), (q_z (q_z (q_z (q_z (q_z (q_z (q_z (q_z (q_z (q_z J 63 0) 64 0) 65 0) 66 0) 67 0) 68 0) 69 0) 70 0) 71 0) 72 0)))) (Nat.le_refl _) rfl ?_
  refine G_newarr (t := 0) (len := 30) rfl rfl (by decide) rfl (by decide) rfl (by decide) (Nat.le_of_ble_eq_true rfl) ?_
  refine G_st (L := 74) (k := 3) (90, [some (.ref 62), none], [.int 8, .ref 62], ((74, q_u (q_z (q_u (q_z (q_u (q_z (q_u (q_z (q_u (q_z (q_u (q_z (q_u (q_z (q_u (q_z (q_u (q_z (q_u (q_z (q_u (q_z rf 63 none) 62 0 (some 63)) 64 none) 62 8 (some 64)) 65 none) 62 10 (some 65)) 66 none) 62 11 (some 66)) 67 none) 62 12 (some 67)) 68 none) 62 14 (some 68)) 69 none) 62 15 (some 69)) 70 none) 62 16 (some 70)) 71 none) 62 17 (some 71)) 72 none) 62 18 (some 72)) 73 none) 62 19 (some 73)), ((q_z (q_z (q_z (q_z (q_z (q_z (q_z (q_z (q_z (q_z (q_z I 63 0) 64 0) 65 0) 66 0) 67 0) 68 0) 69 0) 70 0) 71 0) 72 0) 73 0), (q_z (q_z (q_z (q_z (q_z (q_z (q_z (q_z (q_z (q_z (q_z J 63 0) 64 0) 65 0) 66 0) 67 0) 68 0) 69 0) 70 0) 71 0) 72 0) 73 0)))) (Nat.le_refl _) rfl ?_
  refine G_newarr (t := 0) (len := 8) rfl rfl (by decide) rfl (by decide) rfl (by decide) (Nat.le_of_ble_eq_true rfl) ?_
  refine G_st (L := 75) (k := 3) (98, [some (.ref 62), none], [.int 8, .ref 62], ((75, q_u (q_z (q_u (q_z (q_u (q_z (q_u (q_z (q_u (q_z (q_u (q_z (q_u (q_z (q_u (q_z (q_u (q_z (q_u (q_z (q_u (q_z (q_u (q_z rf 63 none) 62 0 (some 63)) 64 none) 62 8 (some 64)) 65 none) 62 10 (some 65)) 66 none) 62 11 (some 66)) 67 none) 62 12 (some 67)) 68 none) 62 14 (some 68)) 69 none) 62 15 (some 69)) 70 none) 62 16 (some 70)) 71 none) 62 17 (some 71)) 72 none) 62 18 (some 72)) 73 none) 62 19 (some 73)) 74 none) 62 21 (some 74)), ((q_z (q_z (q_z (q_z (q_z (q_z (q_z (q_z (q_z (q_z (q_z (q_z I 63 0) 64 0) 65 0) 66 0) 67 0) 68 0) 69 0) 70 0) 71 0) 72 0) 73 0) 74 0), (q_z (q_z (q_z (q_z (q_z (q_z (q_z (q_z (q_z (q_z (q_z (q_z J 63 0) 64 0) 65 0) 66 0) 67 0) 68 0) 69 0) 70 0) 71 0) 72 0) 73 0) 74 0)))) (Nat.le_refl _) rfl ?_
  refine G_newarr (t := 0) (len := 8) rfl rfl (by decide) rfl (by decide) rfl (by decide) (Nat.le_of_ble_eq_true rfl) ?_
  refine G_st (L := 76) (k := 3) (106, [some (.ref 62), none], [.int 8, .ref 62], ((76, q_u (q_z (q_u (q_z (q_u (q_z (q_u (q_z (q_u (q_z (q_u (q_z (q_u (q_z (q_u (q_z (q_u (q_z (q_u (q_z (q_u (q_z (q_u (q_z (q_u (q_z rf 63 none) 62 0 (some 63)) 64 none) 62 8 (some 64)) 65 none) 62 10 (some 65)) 66 none) 62 11 (some 66)) 67 none) 62 12 (some 67)) 68 none) 62 14 (some 68)) 69 none) 62 15 (some 69)) 70 none) 62 16 (some 70)) 71 none) 62 17 (some 71)) 72 none) 62 18 (some 72)) 73 none) 62 19 (some 73)) 74 none) 62 21 (some 74)) 75 none) 62 22 (some 75)), ((q_z (q_z (q_z (q_z (q_z (q_z (q_z (q_z (q_z (q_z (q_z (q_z (q_z I 63 0) 64 0) 65 0) 66 0) 67 0) 68 0) 69 0) 70 0) 71 0) 72 0) 73 0) 74 0) 75 0), (q_z (q_z (q_z (q_z (q_z (q_z (q_z (q_z (q_z (q_z (q_z (q_z (q_z J 63 0) 64 0) 65 0) 66 0) 67 0) 68 0) 69 0) 70 0) 71 0) 72 0) 73 0) 74 0) 75 0)))) (Nat.le_refl _) rfl ?_
  refine G_newarr (t := 0) (len := 8) rfl rfl (by decide) rfl (by decide) rfl (by decide) (Nat.le_of_ble_eq_true rfl) ?_
  refine G_st (L := 77) (k := 3) (114, [some (.ref 62), none], [.int 8, .ref 62], ((77, q_u (q_z (q_u (q_z (q_u (q_z (q_u (q_z (q_u (q_z (q_u (q_z (q_u (q_z (q_u (q_z (q_u (q_z (q_u (q_z (q_u (q_z (q_u (q_z (q_u (q_z (q_u (q_z rf 63 none) 62 0 (some 63)) 64 none) 62 8 (some 64)) 65 none) 62 10 (some 65)) 66 none) 62 11 (some 66)) 67 none) 62 12 (some 67)) 68 none) 62 14 (some 68)) 69 none) 62 15 (some 69)) 70 none) 62 16 (some 70)) 71 none) 62 17 (some 71)) 72 none) 62 18 (some 72)) 73 none) 62 19 (some 73)) 74 none) 62 21 (some 74)) 75 none) 62 22 (some 75)) 76 none) 62 23 (some 76)), ((q_z (q_z (q_z (q_z (q_z (q_z (q_z (q_z (q_z (q_z (q_z (q_z (q_z (q_z I 63 0) 64 0) 65 0) 66 0) 67 0) 68 0) 69 0) 70 0) 71 0) 72 0) 73 0) 74 0) 75 0) 76 0), (q_z (q_z (q_z (q_z (q_z (q_z (q_z (q_z (q_z (q_z (q_z (q_z (q_z (q_z J 63 0) 64 0) 65 0) 66 0) 67 0) 68 0) 69 0) 70 0) 71 0) 72 0) 73 0) 74 0) 75 0) 76 0)))) (Nat.le_refl _) rfl ?_
  refine G_newarr (t := 0) (len := 8) rfl rfl (by decide) rfl (by decide) rfl (by decide) (Nat.le_of_ble_eq_true rfl) ?_
  refine G_st (L := 78) (k := 3) (122, [some (.ref 62), none], [.int 8, .ref 62], ((78, q_u (q_z (q_u (q_z (q_u (q_z (q_u (q_z (q_u (q_z (q_u (q_z (q_u (q_z (q_u (q_z (q_u (q_z (q_u (q_z (q_u (q_z (q_u (q_z (q_u (q_z (q_u (q_z (q_u (q_z rf 63 none) 62 0 (some 63)) 64 none) 62 8 (some 64)) 65 none) 62 10 (some 65)) 66 none) 62 11 (some 66)) 67 none) 62 12 (some 67)) 68 none) 62 14 (some 68)) 69 none) 62 15 (some 69)) 70 none) 62 16 (some 70)) 71 none) 62 17 (some 71)) 72 none) 62 18 (some 72)) 73 none) 62 19 (some 73)) 74 none) 62 21 (some 74)) 75 none) 62 22 (some 75)) 76 none) 62 23 (some 76)) 77 none) 62 24 (some 77)), ((q_z (q_z (q_z (q_z (q_z (q_z (q_z (q_z (q_z (q_z (q_z (q_z (q_z (q_z (q_z I 63 0) 64 0) 65 0) 66 0) 67 0) 68 0) 69 0) 70 0) 71 0) 72 0) 73 0) 74 0) 75 0) 76 0) 77 0), (q_z (q_z (q_z (q_z (q_z (q_z (q_z (q_z (q_z (q_z (q_z (q_z (q_z (q_z (q_z J 63 0) 64 0) 65 0) 66 0) 67 0) 68 0) 69 0) 70 0) 71 0) 72 0) 73 0) 74 0) 75 0) 76 0) 77 0)))) (Nat.le_refl _) rfl ?_
  refine G_newarr (t := 0) (len := 8) rfl rfl (by decide) rfl (by decide) rfl (by decide) (Nat.le_of_ble_eq_true rfl) ?_
  refine G_st (L := 79) (k := 3) (130, [some (.ref 62), none], [.int 8, .ref 62], ((79, q_u (q_z (q_u (q_z (q_u (q_z (q_u (q_z (q_u (q_z (q_u (q_z (q_u (q_z (q_u (q_z (q_u (q_z (q_u (q_z (q_u (q_z (q_u (q_z (q_u (q_z (q_u (q_z (q_u (q_z (q_u (q_z rf 63 none) 62 0 (some 63)) 64 none) 62 8 (some 64)) 65 none) 62 10 (some 65)) 66 none) 62 11 (some 66)) 67 none) 62 12 (some 67)) 68 none) 62 14 (some 68)) 69 none) 62 15 (some 69)) 70 none) 62 16 (some 70)) 71 none) 62 17 (some 71)) 72 none) 62 18 (some 72)) 73 none) 62 19 (some 73)) 74 none) 62 21 (some 74)) 75 none) 62 22 (some 75)) 76 none) 62 23 (some 76)) 77 none) 62 24 (some 77)) 78 none) 62 25 (some 78)), ((q_z (q_z (q_z (q_z (q_z (q_z (q_z (q_z (q_z (q_z (q_z (q_z (q_z (q_z (q_z (q_z I 63 0) 64 0) 65 0) 66 0) 67 0) 68 0) 69 0) 70 0) 71 0) 72 0) 73 0) 74 0) 75 0) 76 0) 77 0) 78 0), (q_z (q_z (q_z (q_z (q_z (q_z (q_z (q_z (q_z (q_z (q_z (q_z (q_z (q_z (q_z (q_z J 63 0) 64 0) 65 0) 66 0) 67 0) 68 0) 69 0) 70 0) 71 0) 72 0) 73 0) 74 0) 75 0) 76 0) 77 0) 78 0)))) (Nat.le_refl _) rfl ?_
  refine G_newarr (t := 0) (len := 8) rfl rfl (by decide) rfl (by decide) rfl (by decide) (Nat.le_of_ble_eq_true rfl) ?_
  refine G_st (L := 80) (k := 3) (138, [some (.ref 62), none], [.int 8, .ref 62], ((80, q_u (q_z (q_u (q_z (q_u (q_z (q_u (q_z (q_u (q_z (q_u (q_z (q_u (q_z (q_u (q_z (q_u (q_z (q_u (q_z (q_u (q_z (q_u (q_z (q_u (q_z (q_u (q_z (q_u (q_z (q_u (q_z (q_u (q_z rf 63 none) 62 0 (some 63)) 64 none) 62 8 (some 64)) 65 none) 62 10 (some 65)) 66 none) 62 11 (some 66)) 67 none) 62 12 (some 67)) 68 none) 62 14 (some 68)) 69 none) 62 15 (some 69)) 70 none) 62 16 (some 70)) 71 none) 62 17 (some 71)) 72 none) 62 18 (some 72)) 73 none) 62 19 (some 73)) 74 none) 62 21 (some 74)) 75 none) 62 22 (some 75)) 76 none) 62 23 (some 76)) 77 none) 62 24 (some 77)) 78 none) 62 25 (some 78)) 79 none) 62 26 (some 79)), ((q_z (q_z (q_z (q_z (q_z (q_z (q_z (q_z (q_z (q_z (q_z (q_z (q_z (q_z (q_z (q_z (q_z I 63 0) 64 0) 65 0) 66 0) 67 0) 68 0) 69 0) 70 0) 71 0) 72 0) 73 0) 74 0) 75 0) 76 0) 77 0) 78 0) 79 0), (q_z (q_z (q_z (q_z (q_z (q_z (q_z (q_z (q_z (q_z (q_z (q_z (q_z (q_z (q_z (q_z (q_z J 63 0) 64 0) 65 0) 66 0) 67 0) 68 0) 69 0) 70 0) 71 0) 72 0) 73 0) 74 0) 75 0) 76 0) 77 0) 78 0) 79 0)))) (Nat.le_refl _) rfl ?_
  refine G_newarr (t := 1) (len := 8) rfl rfl (by decide) rfl (by decide) rfl (by decide) (Nat.le_of_ble_eq_true rfl) ?_
  refine G_st (L := 81) (k := 3) (147, [some (.ref 62), none], [.int 240, .ref 62], ((81, q_u (q_z (q_u (q_z (q_u (q_z (q_u (q_z (q_u (q_z (q_u (q_z (q_u (q_z (q_u (q_z (q_u (q_z (q_u (q_z (q_u (q_z (q_u (q_z (q_u (q_z (q_u (q_z (q_u (q_z (q_u (q_z (q_u (q_z (q_u (q_z rf 63 none) 62 0 (some 63)) 64 none) 62 8 (some 64)) 65 none) 62 10 (some 65)) 66 none) 62 11 (some 66)) 67 none) 62 12 (some 67)) 68 none) 62 14 (some 68)) 69 none) 62 15 (some 69)) 70 none) 62 16 (some 70)) 71 none) 62 17 (some 71)) 72 none) 62 18 (some 72)) 73 none) 62 19 (some 73)) 74 none) 62 21 (some 74)) 75 none) 62 22 (some 75)) 76 none) 62 23 (some 76)) 77 none) 62 24 (some 77)) 78 none) 62 25 (some 78)) 79 none) 62 26 (some 79)) 80 none) 62 27 (some 80)), ((q_z (q_z (q_z (q_z (q_z (q_z (q_z (q_z (q_z (q_z (q_z (q_z (q_z (q_z (q_z (q_z (q_z (q_z I 63 0) 64 0) 65 0) 66 0) 67 0) 68 0) 69 0) 70 0) 71 0) 72 0) 73 0) 74 0) 75 0) 76 0) 77 0) 78 0) 79 0) 80 0), (q_z (q_z (q_z (q_z (q_z (q_z (q_z (q_z (q_z (q_z (q_z (q_z (q_z (q_z (q_z (q_z (q_z (q_z J 63 0) 64 0) 65 0) 66 0) 67 0) 68 0) 69 0) 70 0) 71 0) 72 0) 73 0) 74 0) 75 0) 76 0) 77 0) 78 0) 79 0) 80 0)))) (Nat.le_refl _) rfl ?_
  refine G_newarr (t := 0) (len := 240) rfl rfl (by decide) rfl (by decide) rfl (by decide) (Nat.le_of_ble_eq_true rfl) ?_
  refine G_st (L := 82) (k := 3) (155, [some (.ref 62), none], [.int 8, .ref 62], ((82, q_u (q_z (q_u (q_z (q_u (q_z (q_u (q_z (q_u (q_z (q_u (q_z (q_u (q_z (q_u (q_z (q_u (q_z (q_u (q_z (q_u (q_z (q_u (q_z (q_u (q_z (q_u (q_z (q_u (q_z (q_u (q_z (q_u (q_z (q_u (q_z (q_u (q_z rf 63 none) 62 0 (some 63)) 64 none) 62 8 (some 64)) 65 none) 62 10 (some 65)) 66 none) 62 11 (some 66)) 67 none) 62 12 (some 67)) 68 none) 62 14 (some 68)) 69 none) 62 15 (some 69)) 70 none) 62 16 (some 70)) 71 none) 62 17 (some 71)) 72 none) 62 18 (some 72)) 73 none) 62 19 (some 73)) 74 none) 62 21 (some 74)) 75 none) 62 22 (some 75)) 76 none) 62 23 (some 76)) 77 none) 62 24 (some 77)) 78 none) 62 25 (some 78)) 79 none) 62 26 (some 79)) 80 none) 62 27 (some 80)) 81 none) 62 28 (some 81)), ((q_z (q_z (q_z (q_z (q_z (q_z (q_z (q_z (q_z (q_z (q_z (q_z (q_z (q_z (q_z (q_z (q_z (q_z (q_z I 63 0) 64 0) 65 0) 66 0) 67 0) 68 0) 69 0) 70 0) 71 0) 72 0) 73 0) 74 0) 75 0) 76 0) 77 0) 78 0) 79 0) 80 0) 81 0), (q_z (q_z (q_z (q_z (q_z (q_z (q_z (q_z (q_z (q_z (q_z (q_z (q_z (q_z (q_z (q_z (q_z (q_z (q_z J 63 0) 64 0) 65 0) 66 0) 67 0) 68 0) 69 0) 70 0) 71 0) 72 0) 73 0) 74 0) 75 0) 76 0) 77 0) 78 0) 79 0) 80 0) 81 0)))) (Nat.le_refl _) rfl ?_
  refine G_newarr (t := 0) (len := 8) rfl rfl (by decide) rfl (by decide) rfl (by decide) (Nat.le_of_ble_eq_true rfl) ?_
  refine G_st (L := 83) (k := 3) (163, [some (.ref 62), none], [.int 8, .ref 62], ((83, q_u (q_z (q_u (q_z (q_u (q_z (q_u (q_z (q_u (q_z (q_u (q_z (q_u (q_z (q_u (q_z (q_u (q_z (q_u (q_z (q_u (q_z (q_u (q_z (q_u (q_z (q_u (q_z (q_u (q_z (q_u (q_z (q_u (q_z (q_u (q_z (q_u (q_z (q_u (q_z rf 63 none) 62 0 (some 63)) 64 none) 62 8 (some 64)) 65 none) 62 10 (some 65)) 66 none) 62 11 (some 66)) 67 none) 62 12 (some 67)) 68 none) 62 14 (some 68)) 69 none) 62 15 (some 69)) 70 none) 62 16 (some 70)) 71 none) 62 17 (some 71)) 72 none) 62 18 (some 72)) 73 none) 62 19 (some 73)) 74 none) 62 21 (some 74)) 75 none) 62 22 (some 75)) 76 none) 62 23 (some 76)) 77 none) 62 24 (some 77)) 78 none) 62 25 (some 78)) 79 none) 62 26 (some 79)) 80 none) 62 27 (some 80)) 81 none) 62 28 (some 81)) 82 none) 62 33 (some 82)), ((q_z (q_z (q_z (q_z (q_z (q_z (q_z (q_z (q_z (q_z (q_z (q_z (q_z (q_z (q_z (q_z (q_z (q_z (q_z (q_z I 63 0) 64 0) 65 0) 66 0) 67 0) 68 0) 69 0) 70 0) 71 0) 72 0) 73 0) 74 0) 75 0) 76 0) 77 0) 78 0) 79 0) 80 0) 81 0) 82 0), (q_z (q_z (q_z (q_z (q_z (q_z (q_z (q_z (q_z (q_z (q_z (q_z (q_z (q_z (q_z (q_z (q_z (q_z (q_z (q_z J 63 0) 64 0) 65 0) 66 0) 67 0) 68 0) 69 0) 70 0) 71 0) 72 0) 73 0) 74 0) 75 0) 76 0) 77 0) 78 0) 79 0) 80 0) 81 0) 82 0)))) (Nat.le_refl _) rfl ?_
  refine G_newarr (t := 0) (len := 8) rfl rfl (by decide) rfl (by decide) rfl (by decide) (Nat.le_of_ble_eq_true rfl) ?_
  refine G_st (L := 84) (k := 3) (171, [some (.ref 62), none], [.int 8, .ref 62], ((84, q_u (q_z (q_u (q_z (q_u (q_z (q_u (q_z (q_u (q_z (q_u (q_z (q_u (q_z (q_u (q_z (q_u (q_z (q_u (q_z (q_u (q_z (q_u (q_z (q_u (q_z (q_u (q_z (q_u (q_z (q_u (q_z (q_u (q_z (q_u (q_z (q_u (q_z (q_u (q_z (q_u (q_z rf 63 none) 62 0 (some 63)) 64 none) 62 8 (some 64)) 65 none) 62 10 (some 65)) 66 none) 62 11 (some 66)) 67 none) 62 12 (some 67)) 68 none) 62 14 (some 68)) 69 none) 62 15 (some 69)) 70 none) 62 16 (some 70)) 71 none) 62 17 (some 71)) 72 none) 62 18 (some 72)) 73 none) 62 19 (some 73)) 74 none) 62 21 (some 74)) 75 none) 62 22 (some 75)) 76 none) 62 23 (some 76)) 77 none) 62 24 (some 77)) 78 none) 62 25 (some 78)) 79 none) 62 26 (some 79)) 80 none) 62 27 (some 80)) 81 none) 62 28 (some 81)) 82 none) 62 33 (some 82)) 83 none) 62 34 (some 83)), ((q_z (q_z (q_z (q_z (q_z (q_z (q_z (q_z (q_z (q_z (q_z (q_z (q_z (q_z (q_z (q_z (q_z (q_z (q_z (q_z (q_z I 63 0) 64 0) 65 0) 66 0) 67 0) 68 0) 69 0) 70 0) 71 0) 72 0) 73 0) 74 0) 75 0) 76 0) 77 0) 78 0) 79 0) 80 0) 81 0) 82 0) 83 0), (q_z (q_z (q_z (q_z (q_z (q_z (q_z (q_z (q_z (q_z (q_z (q_z (q_z (q_z (q_z (q_z (q_z (q_z (q_z (q_z (q_z J 63 0) 64 0) 65 0) 66 0) 67 0) 68 0) 69 0) 70 0) 71 0) 72 0) 73 0) 74 0) 75 0) 76 0) 77 0) 78 0) 79 0) 80 0) 81 0) 82 0) 83 0)))) (Nat.le_refl _) rfl ?_
  refine G_newarr (t := 0) (len := 8) rfl rfl (by decide) rfl (by decide) rfl (by decide) (Nat.le_of_ble_eq_true rfl) ?_
  refine G_st (L := 85) (k := 3) (179, [some (.ref 62), none], [.int 41, .ref 62], ((85, q_u (q_z (q_u (q_z (q_u (q_z (q_u (q_z (q_u (q_z (q_u (q_z (q_u (q_z (q_u (q_z (q_u (q_z (q_u (q_z (q_u (q_z (q_u (q_z (q_u (q_z (q_u (q_z (q_u (q_z (q_u (q_z (q_u (q_z (q_u (q_z (q_u (q_z (q_u (q_z (q_u (q_z (q_u (q_z rf 63 none) 62 0 (some 63)) 64 none) 62 8 (some 64)) 65 none) 62 10 (some 65)) 66 none) 62 11 (some 66)) 67 none) 62 12 (some 67)) 68 none) 62 14 (some 68)) 69 none) 62 15 (some 69)) 70 none) 62 16 (some 70)) 71 none) 62 17 (some 71)) 72 none) 62 18 (some 72)) 73 none) 62 19 (some 73)) 74 none) 62 21 (some 74)) 75 none) 62 22 (some 75)) 76 none) 62 23 (some 76)) 77 none) 62 24 (some 77)) 78 none) 62 25 (some 78)) 79 none) 62 26 (some 79)) 80 none) 62 27 (some 80)) 81 none) 62 28 (some 81)) 82 none) 62 33 (some 82)) 83 none) 62 34 (some 83)) 84 none) 62 35 (some 84)), ((q_z (q_z (q_z (q_z (q_z (q_z (q_z (q_z (q_z (q_z (q_z (q_z (q_z (q_z (q_z (q_z (q_z (q_z (q_z (q_z (q_z (q_z I 63 0) 64 0) 65 0) 66 0) 67 0) 68 0) 69 0) 70 0) 71 0) 72 0) 73 0) 74 0) 75 0) 76 0) 77 0) 78 0) 79 0) 80 0) 81 0) 82 0) 83 0) 84 0), (q_z (q_z (q_z (q_z (q_z (q_z (q_z (q_z (q_z (q_z (q_z (q_z (q_z (q_z (q_z (q_z (q_z (q_z (q_z (q_z (q_z (q_z J 63 0) 64 0) 65 0) 66 0) 67 0) 68 0) 69 0) 70 0) 71 0) 72 0) 73 0) 74 0) 75 0) 76 0) 77 0) 78 0) 79 0) 80 0) 81 0) 82 0) 83 0) 84 0)))) (Nat.le_refl _) rfl ?_
  refine G_newarr (t := 0) (len := 41) rfl rfl (by decide) rfl (by decide) rfl (by decide) (Nat.le_of_ble_eq_true rfl) ?_
  refine G_st (L := 86) (k := 3) (186, [some (.ref 62), none], [.int 4, .ref 62], ((86, q_u (q_z (q_u (q_z (q_u (q_z (q_u (q_z (q_u (q_z (q_u (q_z (q_u (q_z (q_u (q_z (q_u (q_z (q_u (q_z (q_u (q_z (q_u (q_z (q_u (q_z (q_u (q_z (q_u (q_z (q_u (q_z (q_u (q_z (q_u (q_z (q_u (q_z (q_u (q_z (q_u (q_z (q_u (q_z (q_u (q_z rf 63 none) 62 0 (some 63)) 64 none) 62 8 (some 64)) 65 none) 62 10 (some 65)) 66 none) 62 11 (some 66)) 67 none) 62 12 (some 67)) 68 none) 62 14 (some 68)) 69 none) 62 15 (some 69)) 70 none) 62 16 (some 70)) 71 none) 62 17 (some 71)) 72 none) 62 18 (some 72)) 73 none) 62 19 (some 73)) 74 none) 62 21 (some 74)) 75 none) 62 22 (some 75)) 76 none) 62 23 (some 76)) 77 none) 62 24 (some 77)) 78 none) 62 25 (some 78)) 79 none) 62 26 (some 79)) 80 none) 62 27 (some 80)) 81 none) 62 28 (some 81)) 82 none) 62 33 (some 82)) 83 none) 62 34 (some 83)) 84 none) 62 35 (some 84)) 85 none) 62 38 (some 85)), ((q_z (q_z (q_z (q_z (q_z (q_z (q_z (q_z (q_z (q_z (q_z (q_z (q_z (q_z (q_z (q_z (q_z (q_z (q_z (q_z (q_z (q_z (q_z I 63 0) 64 0) 65 0) 66 0) 67 0) 68 0) 69 0) 70 0) 71 0) 72 0) 73 0) 74 0) 75 0) 76 0) 77 0) 78 0) 79 0) 80 0) 81 0) 82 0) 83 0) 84 0) 85 0), (q_z (q_z (q_z (q_z (q_z (q_z (q_z (q_z (q_z (q_z (q_z (q_z (q_z (q_z (q_z (q_z (q_z (q_z (q_z (q_z (q_z (q_z (q_z J 63 0) 64 0) 65 0) 66 0) 67 0) 68 0) 69 0) 70 0) 71 0) 72 0) 73 0) 74 0) 75 0) 76 0) 77 0) 78 0) 79 0) 80 0) 81 0) 82 0) 83 0) 84 0) 85 0)))) (Nat.le_refl _) rfl ?_
  refine G_newarr (t := 0) (len := 4) rfl rfl (by decide) rfl (by decide) rfl (by decide) (Nat.le_of_ble_eq_true rfl) ?_
  refine G_st (L := 87) (k := 3) (193, [some (.ref 62), none], [.int 4, .ref 62], ((87, q_u (q_z (q_u (q_z (q_u (q_z (q_u (q_z (q_u (q_z (q_u (q_z (q_u (q_z (q_u (q_z (q_u (q_z (q_u (q_z (q_u (q_z (q_u (q_z (q_u (q_z (q_u (q_z (q_u (q_z (q_u (q_z (q_u (q_z (q_u (q_z (q_u (q_z (q_u (q_z (q_u (q_z (q_u (q_z (q_u (q_z (q_u (q_z rf 63 none) 62 0 (some 63)) 64 none) 62 8 (some 64)) 65 none) 62 10 (some 65)) 66 none) 62 11 (some 66)) 67 none) 62 12 (some 67)) 68 none) 62 14 (some 68)) 69 none) 62 15 (some 69)) 70 none) 62 16 (some 70)) 71 none) 62 17 (some 71)) 72 none) 62 18 (some 72)) 73 none) 62 19 (some 73)) 74 none) 62 21 (some 74)) 75 none) 62 22 (some 75)) 76 none) 62 23 (some 76)) 77 none) 62 24 (some 77)) 78 none) 62 25 (some 78)) 79 none) 62 26 (some 79)) 80 none) 62 27 (some 80)) 81 none) 62 28 (some 81)) 82 none) 62 33 (some 82)) 83 none) 62 34 (some 83)) 84 none) 62 35 (some 84)) 85 none) 62 38 (some 85)) 86 none) 62 39 (some 86)), ((q_z (q_z (q_z (q_z (q_z (q_z (q_z (q_z (q_z (q_z (q_z (q_z (q_z (q_z (q_z (q_z (q_z (q_z (q_z (q_z (q_z (q_z (q_z (q_z I 63 0) 64 0) 65 0) 66 0) 67 0) 68 0) 69 0) 70 0) 71 0) 72 0) 73 0) 74 0) 75 0) 76 0) 77 0) 78 0) 79 0) 80 0) 81 0) 82 0) 83 0) 84 0) 85 0) 86 0), (q_z (q_z (q_z (q_z (q_z (q_z (q_z (q_z (q_z (q_z (q_z (q_z (q_z (q_z (q_z (q_z (q_z (q_z (q_z (q_z (q_z (q_z (q_z (q_z J 63 0) 64 0) 65 0) 66 0) 67 0) 68 0) 69 0) 70 0) 71 0) 72 0) 73 0) 74 0) 75 0) 76 0) 77 0) 78 0) 79 0) 80 0) 81 0) 82 0) 83 0) 84 0) 85 0) 86 0)))) (Nat.le_refl _) rfl ?_
  refine G_newarr (t := 0) (len := 4) rfl rfl (by decide) rfl (by decide) rfl (by decide) (Nat.le_of_ble_eq_true rfl) ?_
  refine G_st (L := 88) (k := 3) (202, [some (.ref 62), none], [.int 240, .ref 62], ((88, q_u (q_z (q_u (q_z (q_u (q_z (q_u (q_z (q_u (q_z (q_u (q_z (q_u (q_z (q_u (q_z (q_u (q_z (q_u (q_z (q_u (q_z (q_u (q_z (q_u (q_z (q_u (q_z (q_u (q_z (q_u (q_z (q_u (q_z (q_u (q_z (q_u (q_z (q_u (q_z (q_u (q_z (q_u (q_z (q_u (q_z (q_u (q_z (q_u (q_z rf 63 none) 62 0 (some 63)) 64 none) 62 8 (some 64)) 65 none) 62 10 (some 65)) 66 none) 62 11 (some 66)) 67 none) 62 12 (some 67)) 68 none) 62 14 (some 68)) 69 none) 62 15 (some 69)) 70 none) 62 16 (some 70)) 71 none) 62 17 (some 71)) 72 none) 62 18 (some 72)) 73 none) 62 19 (some 73)) 74 none) 62 21 (some 74)) 75 none) 62 22 (some 75)) 76 none) 62 23 (some 76)) 77 none) 62 24 (some 77)) 78 none) 62 25 (some 78)) 79 none) 62 26 (some 79)) 80 none) 62 27 (some 80)) 81 none) 62 28 (some 81)) 82 none) 62 33 (some 82)) 83 none) 62 34 (some 83)) 84 none) 62 35 (some 84)) 85 none) 62 38 (some 85)) 86 none) 62 39 (some 86)) 87 none) 62 40 (some 87)), ((q_z (q_z (q_z (q_z (q_z (q_z (q_z (q_z (q_z (q_z (q_z (q_z (q_z (q_z (q_z (q_z (q_z (q_z (q_z (q_z (q_z (q_z (q_z (q_z (q_z I 63 0) 64 0) 65 0) 66 0) 67 0) 68 0) 69 0) 70 0) 71 0) 72 0) 73 0) 74 0) 75 0) 76 0) 77 0) 78 0) 79 0) 80 0) 81 0) 82 0) 83 0) 84 0) 85 0) 86 0) 87 0), (q_z (q_z (q_z (q_z (q_z (q_z (q_z (q_z (q_z (q_z (q_z (q_z (q_z (q_z (q_z (q_z (q_z (q_z (q_z (q_z (q_z (q_z (q_z (q_z (q_z J 63 0) 64 0) 65 0) 66 0) 67 0) 68 0) 69 0) 70 0) 71 0) 72 0) 73 0) 74 0) 75 0) 76 0) 77 0) 78 0) 79 0) 80 0) 81 0) 82 0) 83 0) 84 0) 85 0) 86 0) 87 0)))) (Nat.le_refl _) rfl ?_
  refine G_newarr (t := 3) (len := 240) rfl rfl (by decide) rfl (by decide) rfl (by decide) (Nat.le_of_ble_eq_true rfl) ?_
  refine G_st (L := 89) (k := 3) (209, [some (.ref 62), some (.int 0)], [], ((89, q_u (q_z (q_u (q_z (q_u (q_z (q_u (q_z (q_u (q_z (q_u (q_z (q_u (q_z (q_u (q_z (q_u (q_z (q_u (q_z (q_u (q_z (q_u (q_z (q_u (q_z (q_u (q_z (q_u (q_z (q_u (q_z (q_u (q_z (q_u (q_z (q_u (q_z (q_u (q_z (q_u (q_z (q_u (q_z (q_u (q_z (q_u (q_z (q_u (q_z (q_u (q_z rf 63 none) 62 0 (some 63)) 64 none) 62 8 (some 64)) 65 none) 62 10 (some 65)) 66 none) 62 11 (some 66)) 67 none) 62 12 (some 67)) 68 none) 62 14 (some 68)) 69 none) 62 15 (some 69)) 70 none) 62 16 (some 70)) 71 none) 62 17 (some 71)) 72 none) 62 18 (some 72)) 73 none) 62 19 (some 73)) 74 none) 62 21 (some 74)) 75 none) 62 22 (some 75)) 76 none) 62 23 (some 76)) 77 none) 62 24 (some 77)) 78 none) 62 25 (some 78)) 79 none) 62 26 (some 79)) 80 none) 62 27 (some 80)) 81 none) 62 28 (some 81)) 82 none) 62 33 (some 82)) 83 none) 62 34 (some 83)) 84 none) 62 35 (some 84)) 85 none) 62 38 (some 85)) 86 none) 62 39 (some 86)) 87 none) 62 40 (some 87)) 88 none) 62 41 (some 88)), ((q_z (q_z (q_z (q_z (q_z (q_z (q_z (q_z (q_z (q_z (q_z (q_z (q_z (q_z (q_z (q_z (q_z (q_z (q_z (q_z (q_z (q_z (q_z (q_z (q_z (q_z I 63 0) 64 0) 65 0) 66 0) 67 0) 68 0) 69 0) 70 0) 71 0) 72 0) 73 0) 74 0) 75 0) 76 0) 77 0) 78 0) 79 0) 80 0) 81 0) 82 0) 83 0) 84 0) 85 0) 86 0) 87 0) 88 0), (q_z (q_z (q_z (q_z (q_z (q_z (q_z (q_z (q_z (q_z (q_z (q_z (q_z (q_z (q_z (q_z (q_z (q_z (q_z (q_z (q_z (q_z (q_z (q_z (q_z (q_z J 63 0) 64 0) 65 0) 66 0) 67 0) 68 0) 69 0) 70 0) 71 0) 72 0) 73 0) 74 0) 75 0) 76 0) 77 0) 78 0) 79 0) 80 0) 81 0) 82 0) 83 0) 84 0) 85 0) 86 0) 87 0) 88 0)))) (Nat.le_refl _) rfl ?_
  exact H
theorem c9_l3 {d : Nat} {rf : Nat → Nat → Option Nat} {J : Nat → Nat → Int64} : ∀ (m i : Nat) (I : Nat → Nat → Int32), i + m = 240 → G (d + 1) 98 (267, [some (.ref 62), some (.int (nI i))], [], ((89, c9r rf), (I, c9j J))) none ((89, c9r rf), (q_fil I 81 i 240 (-4), c9j J)) := by
  intro m
  induction m with
  | zero =>
    intro i I h
    obtain rfl : i = 240 := by omega
    rw [q_fil_end]
    refine G_st (L := 89) (k := 2) (271, [some (.ref 62), some (.int 240)], [.int 240, .int 240], ((89, c9r rf), (I, (c9j J)))) (Nat.le_refl _) rfl ?_
    refine G_icmp_ge 288 rfl rfl (fun _ => ?_) (fun h9 => absurd h9 (by decide))
    exact G_ret rfl rfl rfl rfl
  | succ m ih =>
    intro i I h
    rw [← q_fil_step I (-4) (by omega)]
    refine G_st (L := 89) (k := 2) (271, [some (.ref 62), some (.int (nI i))], [.int 240, .int (nI i)], ((89, c9r rf), (I, (c9j J)))) (Nat.le_refl _) rfl ?_
    refine G_icmp_ge 288 rfl rfl (fun h9 => absurd h9 (nI_ge (b := 240) (by omega) (by decide))) (fun _ => ?_)
    refine G_st (L := 89) (k := 4) (281, [some (.ref 62), some (.int (nI i))], [.int (-4), .int (nI i), .ref 81], ((89, c9r rf), (I, (c9j J)))) (Nat.le_refl _) rfl ?_
    refine G_iast (i := 81) (n := 240) rfl rfl (Nat.le_of_ble_eq_true rfl) (vp_in_nI (by omega) (by decide)) ?_
    rw [q_clamp (n := i) (by omega)]
    refine G_st (L := 89) (k := 2) (267, [some (.ref 62), some (.int ((nI i) + 1))], [], ((89, c9r rf), (q_u I 81 i (-4), (c9j J)))) (Nat.le_refl _) rfl ?_
    rw [show (nI i) + 1 = nI (i + 1) from (q_addP rfl rfl)]
    exact ih (i + 1) _ (by omega)
theorem q_fil2_step (I : Nat → Nat → Int32) {i n : Nat} (x z : Int32) (h : i < n) : q_fil (q_fil (q_u (q_u I 70 i x) 73 i z) 70 (i + 1) n x) 73 (i + 1) n z = q_fil (q_fil I 70 i n x) 73 i n z := by
  funext a b
  unfold q_fil q_u
  by_cases h1 : a = 73
  · subst h1
    by_cases h2 : b = i
    · subst h2
      rw [if_neg (by omega), if_neg (by omega), if_pos (by omega), if_pos (by omega)]
    · rw [if_neg (show ¬ (73 = 70 ∧ i + 1 ≤ b ∧ b < n) by omega), if_neg (show ¬ (73 = 73 ∧ b = i) by omega), if_neg (show ¬ (73 = 70 ∧ b = i) by omega), if_neg (show ¬ (73 = 70 ∧ i ≤ b ∧ b < n) by omega)]
      by_cases h3 : i + 1 ≤ b ∧ b < n
      · rw [if_pos (by omega), if_pos (by omega)]
      · rw [if_neg (by omega), if_neg (by omega)]
  · rw [if_neg (by omega), if_neg (show ¬ (a = 73 ∧ b = i) by omega), if_neg (show ¬ (a = 73 ∧ i ≤ b ∧ b < n) by omega)]
    by_cases h2 : a = 70 ∧ b = i
    · rw [if_neg (by omega), if_pos h2, if_pos (by omega)]
    · rw [if_neg h2]
      by_cases h3 : a = 70 ∧ i + 1 ≤ b ∧ b < n
      · rw [if_pos h3, if_pos (by omega)]
      · rw [if_neg h3, if_neg (by omega)]
def c9b (I : Nat → Nat → Int32) : Nat → Nat → Int32 := q_fil (q_fil (q_fil I 70 0 30 5) 73 0 30 (-4)) 81 0 240 (-4)
theorem c9_l2 {d : Nat} {rf : Nat → Nat → Option Nat} {J : Nat → Nat → Int64} : ∀ (m i : Nat) (I : Nat → Nat → Int32), i + m = 30 → G (d + 1) 98 (238, [some (.ref 62), some (.int (nI i))], [], ((89, c9r rf), (I, c9j J))) none ((89, c9r rf), (q_fil (q_fil (q_fil I 70 i 30 5) 73 i 30 (-4)) 81 0 240 (-4), c9j J)) := by
  intro m
  induction m with
  | zero =>
    intro i I h
    obtain rfl : i = 30 := by omega
    rw [q_fil_end, q_fil_end]
    refine G_st (L := 89) (k := 2) (241, [some (.ref 62), some (.int 30)], [.int 30, .int 30], ((89, c9r rf), (I, (c9j J)))) (Nat.le_refl _) rfl ?_
    refine G_icmp_ge 265 rfl rfl (fun _ => ?_) (fun h9 => absurd h9 (by decide))
    refine G_st (L := 89) (k := 2) (267, [some (.ref 62), some (.int 0)], [], ((89, c9r rf), (I, (c9j J)))) (Nat.le_refl _) rfl ?_
    exact c9_l3 240 0 I rfl
  | succ m ih =>
    intro i I h
    rw [← q_fil2_step I 5 (-4) (by omega)]
    refine G_st (L := 89) (k := 2) (241, [some (.ref 62), some (.int (nI i))], [.int 30, .int (nI i)], ((89, c9r rf), (I, (c9j J)))) (Nat.le_refl _) rfl ?_
    refine G_icmp_ge 265 rfl rfl (fun h9 => absurd h9 (nI_ge (b := 30) (by omega) (by decide))) (fun _ => ?_)
    refine G_st (L := 89) (k := 4) (250, [some (.ref 62), some (.int (nI i))], [.int 5, .int (nI i), .ref 70], ((89, c9r rf), (I, (c9j J)))) (Nat.le_refl _) rfl ?_
    refine G_iast (i := 70) (n := 30) rfl rfl (Nat.le_of_ble_eq_true rfl) (vp_in_nI (by omega) (by decide)) ?_
    rw [q_clamp (n := i) (by omega)]
    refine G_st (L := 89) (k := 4) (258, [some (.ref 62), some (.int (nI i))], [.int (-4), .int (nI i), .ref 73], ((89, c9r rf), (q_u I 70 i 5, (c9j J)))) (Nat.le_refl _) rfl ?_
    refine G_iast (i := 73) (n := 30) rfl rfl (Nat.le_of_ble_eq_true rfl) (vp_in_nI (by omega) (by decide)) ?_
    rw [q_clamp (n := i) (by omega)]
    refine G_st (L := 89) (k := 2) (238, [some (.ref 62), some (.int ((nI i) + 1))], [], ((89, c9r rf), (q_u (q_u I 70 i 5) 73 i (-4), (c9j J)))) (Nat.le_refl _) rfl ?_
    rw [show (nI i) + 1 = nI (i + 1) from (q_addP rfl rfl)]
    exact ih (i + 1) _ (by omega)
def c9i (I : Nat → Nat → Int32) : Nat → Nat → Int32 := c9b (q_u (q_u (q_u (q_u (q_u (q_u (q_u (q_u (c9a I) 86 0 (-4)) 64 0 (-4)) 86 1 (-4)) 64 1 (-4)) 86 2 (-4)) 64 2 (-4)) 86 3 (-4)) 64 3 (-4))
theorem c9 {d : Nat} {rf : Nat → Nat → Option Nat} {I : Nat → Nat → Int32} {J : Nat → Nat → Int64} : GM (d + 1) 98 [.ref 62] ((63, rf), (I, J)) none ((89, c9r rf), (c9i I, c9j J)) := by
  refine c9_a ?_
  refine G_st (L := 89) (k := 2) (211, [some (.ref 62), some (.int 0)], [.int 4, .int 0], ((89, c9r rf), ((c9a I), (c9j J)))) (Nat.le_refl _) rfl ?_
  refine G_icmp_ge 236 rfl rfl (fun h9 => absurd h9 (by decide)) (fun _ => ?_)
  refine G_st (L := 89) (k := 4) (221, [some (.ref 62), some (.int 0)], [.int (-4), .int 0, .ref 86], ((89, c9r rf), ((c9a I), (c9j J)))) (Nat.le_refl _) rfl ?_
  refine G_iast (i := 86) (n := 4) rfl rfl (Nat.le_of_ble_eq_true rfl) (by unfold vp_in; decide) ?_
  refine G_st (L := 89) (k := 4) (229, [some (.ref 62), some (.int 0)], [.int (-4), .int 0, .ref 64], ((89, c9r rf), (q_u (c9a I) 86 0 (-4), (c9j J)))) (Nat.le_refl _) rfl ?_
  refine G_iast (i := 64) (n := 4) rfl rfl (Nat.le_of_ble_eq_true rfl) (by unfold vp_in; decide) ?_
  refine G_st (L := 89) (k := 4) (211, [some (.ref 62), some (.int 1)], [.int 4, .int 1], ((89, c9r rf), (q_u (q_u (c9a I) 86 0 (-4)) 64 0 (-4), (c9j J)))) (Nat.le_refl _) rfl ?_
  refine G_icmp_ge 236 rfl rfl (fun h9 => absurd h9 (by decide)) (fun _ => ?_)
  refine G_st (L := 89) (k := 4) (221, [some (.ref 62), some (.int 1)], [.int (-4), .int 1, .ref 86], ((89, c9r rf), (q_u (q_u (c9a I) 86 0 (-4)) 64 0 (-4), (c9j J)))) (Nat.le_refl _) rfl ?_
  refine G_iast (i := 86) (n := 4) rfl rfl (Nat.le_of_ble_eq_true rfl) (by unfold vp_in; decide) ?_
  refine G_st (L := 89) (k := 4) (229, [some (.ref 62), some (.int 1)], [.int (-4), .int 1, .ref 64], ((89, c9r rf), (q_u (q_u (q_u (c9a I) 86 0 (-4)) 64 0 (-4)) 86 1 (-4), (c9j J)))) (Nat.le_refl _) rfl ?_
  refine G_iast (i := 64) (n := 4) rfl rfl (Nat.le_of_ble_eq_true rfl) (by unfold vp_in; decide) ?_
  refine G_st (L := 89) (k := 4) (211, [some (.ref 62), some (.int 2)], [.int 4, .int 2], ((89, c9r rf), (q_u (q_u (q_u (q_u (c9a I) 86 0 (-4)) 64 0 (-4)) 86 1 (-4)) 64 1 (-4), (c9j J)))) (Nat.le_refl _) rfl ?_
  refine G_icmp_ge 236 rfl rfl (fun h9 => absurd h9 (by decide)) (fun _ => ?_)
  refine G_st (L := 89) (k := 4) (221, [some (.ref 62), some (.int 2)], [.int (-4), .int 2, .ref 86], ((89, c9r rf), (q_u (q_u (q_u (q_u (c9a I) 86 0 (-4)) 64 0 (-4)) 86 1 (-4)) 64 1 (-4), (c9j J)))) (Nat.le_refl _) rfl ?_
  refine G_iast (i := 86) (n := 4) rfl rfl (Nat.le_of_ble_eq_true rfl) (by unfold vp_in; decide) ?_
  refine G_st (L := 89) (k := 4) (229, [some (.ref 62), some (.int 2)], [.int (-4), .int 2, .ref 64], ((89, c9r rf), (q_u (q_u (q_u (q_u (q_u (c9a I) 86 0 (-4)) 64 0 (-4)) 86 1 (-4)) 64 1 (-4)) 86 2 (-4), (c9j J)))) (Nat.le_refl _) rfl ?_
  refine G_iast (i := 64) (n := 4) rfl rfl (Nat.le_of_ble_eq_true rfl) (by unfold vp_in; decide) ?_
  refine G_st (L := 89) (k := 4) (211, [some (.ref 62), some (.int 3)], [.int 4, .int 3], ((89, c9r rf), (q_u (q_u (q_u (q_u (q_u (q_u (c9a I) 86 0 (-4)) 64 0 (-4)) 86 1 (-4)) 64 1 (-4)) 86 2 (-4)) 64 2 (-4), (c9j J)))) (Nat.le_refl _) rfl ?_
  refine G_icmp_ge 236 rfl rfl (fun h9 => absurd h9 (by decide)) (fun _ => ?_)
  refine G_st (L := 89) (k := 4) (221, [some (.ref 62), some (.int 3)], [.int (-4), .int 3, .ref 86], ((89, c9r rf), (q_u (q_u (q_u (q_u (q_u (q_u (c9a I) 86 0 (-4)) 64 0 (-4)) 86 1 (-4)) 64 1 (-4)) 86 2 (-4)) 64 2 (-4), (c9j J)))) (Nat.le_refl _) rfl ?_
  refine G_iast (i := 86) (n := 4) rfl rfl (Nat.le_of_ble_eq_true rfl) (by unfold vp_in; decide) ?_
  refine G_st (L := 89) (k := 4) (229, [some (.ref 62), some (.int 3)], [.int (-4), .int 3, .ref 64], ((89, c9r rf), (q_u (q_u (q_u (q_u (q_u (q_u (q_u (c9a I) 86 0 (-4)) 64 0 (-4)) 86 1 (-4)) 64 1 (-4)) 86 2 (-4)) 64 2 (-4)) 86 3 (-4), (c9j J)))) (Nat.le_refl _) rfl ?_
  refine G_iast (i := 64) (n := 4) rfl rfl (Nat.le_of_ble_eq_true rfl) (by unfold vp_in; decide) ?_
  refine G_st (L := 89) (k := 4) (211, [some (.ref 62), some (.int 4)], [.int 4, .int 4], ((89, c9r rf), (q_u (q_u (q_u (q_u (q_u (q_u (q_u (q_u (c9a I) 86 0 (-4)) 64 0 (-4)) 86 1 (-4)) 64 1 (-4)) 86 2 (-4)) 64 2 (-4)) 86 3 (-4)) 64 3 (-4), (c9j J)))) (Nat.le_refl _) rfl ?_
  refine G_icmp_ge 236 rfl rfl (fun _ => ?_) (fun h9 => absurd h9 (by decide))
  refine G_st (L := 89) (k := 2) (238, [some (.ref 62), some (.int 0)], [], ((89, c9r rf), (q_u (q_u (q_u (q_u (q_u (q_u (q_u (q_u (c9a I) 86 0 (-4)) 64 0 (-4)) 86 1 (-4)) 64 1 (-4)) 86 2 (-4)) 64 2 (-4)) 86 3 (-4)) 64 3 (-4), (c9j J)))) (Nat.le_refl _) rfl ?_
  exact c9_l2 30 0 _ rfl
def c_none : Nat → Nat → Option Nat := fun _ _ => none
def c_I : Nat → Nat → Int32 := c9i (q_z (c8i (q_z (fun _ _ => 0) 0 0)) 62 0)
def c_J : Nat → Nat → Int64 := c9j (q_z (c8j (q_z (fun _ _ => 0) 0 0)) 62 0)
def c_R : Nat → Nat → Option Nat := c9r (q_z (c8r (q_z c_none 0 none)) 62 none)
def c_bd (f : Nat → Nat → Option Nat) : Prop := ∀ i k, 89 ≤ i ∨ 64 ≤ k → f i k = none
theorem c_bd_u {f : Nat → Nat → Option Nat} {a b : Nat} {x : Option Nat} (h : c_bd f) (ha : a < 89) (hb : b < 64) : c_bd (q_u f a b x) := by
  intro i k hi
  rw [q_un _ _ (by omega)]
  exact h i k hi
theorem c_bd_z {f : Nat → Nat → Option Nat} {a : Nat} (h : c_bd f) : c_bd (q_z f a none) := by
  intro i k hi
  unfold q_z
  split
  · rfl
  · exact h i k hi
theorem c_bd_W {f : Nat → Nat → Option Nat} (h : c_bd f) : ∀ w, w ≤ 30 → c_bd (cWr f w)
  | 0, _ => h
  | w + 1, hw => c_bd_u (c_bd_z (c_bd_W h w (by omega))) (by decide) (by omega)
theorem c_bd_none : c_bd c_none := fun _ _ _ => rfl
theorem c_bd_R : c_bd c_R := by
  unfold c_R c9r c8r c5_0r c5_1r c5_2r c5_3r c4r c0r c2_9r c2_4r c3r c6r
  repeat (first | exact c_bd_none | refine c_bd_u ?_ (by decide) (by decide) | refine c_bd_z ?_ | refine c_bd_W ?_ 30 (Nat.le_refl _))
theorem c_bd_rf : c_bd (q_rf false 0) := by
  intro i k h
  by_cases hi : 62 < i
  · rw [q_rf_hi hi]
    by_cases h2 : 89 ≤ i
    · rw [q_bleF (show 2 * 0 + 89 < i + 1 by omega)]
      rw [Bool.and_false]; rfl
    · rw [q_bleF (show i < 89 by omega)]; rfl
  · have hk : 64 ≤ k := by omega
    obtain ⟨k, rfl⟩ : ∃ j, k = j + 64 := ⟨k - 64, by omega⟩
    have hi2 : i < 63 := by omega
    clear h hk hi
    have hc : ∀ i, i < 63 → q_rf false 0 i (k + 64) = none := by
      intro i hi
      match i, hi with
      | 0, _ => rfl
      | 1, _ => rfl
      | 2, _ => rfl
      | 3, _ => rfl
      | 4, _ => rfl
      | 5, _ => rfl
      | 6, _ => rfl
      | 7, _ => rfl
      | 8, _ => rfl
      | 9, _ => rfl
      | 10, _ => rfl
      | 11, _ => rfl
      | 12, _ => rfl
      | 13, _ => rfl
      | 14, _ => rfl
      | 15, _ => rfl
      | 16, _ => rfl
      | 17, _ => rfl
      | 18, _ => rfl
      | 19, _ => rfl
      | 20, _ => rfl
      | 21, _ => rfl
      | 22, _ => rfl
      | 23, _ => rfl
      | 24, _ => rfl
      | 25, _ => rfl
      | 26, _ => rfl
      | 27, _ => rfl
      | 28, _ => rfl
      | 29, _ => rfl
      | 30, _ => rfl
      | 31, _ => rfl
      | 32, _ => rfl
      | 33, _ => rfl
      | 34, _ => rfl
      | 35, _ => rfl
      | 36, _ => rfl
      | 37, _ => rfl
      | 38, _ => rfl
      | 39, _ => rfl
      | 40, _ => rfl
      | 41, _ => rfl
      | 42, _ => rfl
      | 43, _ => rfl
      | 44, _ => rfl
      | 45, _ => rfl
      | 46, _ => rfl
      | 47, _ => rfl
      | 48, _ => rfl
      | 49, _ => rfl
      | 50, _ => rfl
      | 51, _ => rfl
      | 52, _ => rfl
      | 53, _ => rfl
      | 54, _ => rfl
      | 55, _ => rfl
      | 56, _ => rfl
      | 57, _ => rfl
      | 58, _ => rfl
      | 59, _ => rfl
      | 60, _ => rfl
      | 61, _ => rfl
      | 62, _ => rfl
      | i + 63, h => exact absurd h (by omega)
    exact hc i hi2
theorem c_R_eq : c_R = q_rf false 0 := by
  funext i k
  by_cases h : 89 ≤ i ∨ 64 ≤ k
  · rw [c_bd_R i k h, c_bd_rf i k h]
  · have h1 : (List.range 89).all (fun i => (List.range 64).all (fun k => decide (c_R i k = q_rf false 0 i k))) = true := by decide +kernel
    exact of_decide_eq_true (List.all_eq_true.mp (List.all_eq_true.mp h1 i (List.mem_range.mpr (by omega))) k (List.mem_range.mpr (by omega)))
