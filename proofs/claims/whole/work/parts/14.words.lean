theorem ab_t1 {w : Cond} (h : w ∈ tables_1_1) (g : goodWord w = true) : w ∈ ab_tb := List.mem_filter.mpr ⟨List.mem_append_right _ (List.mem_append_left _ h), g⟩
theorem ab_t2 {w : Cond} (h : w ∈ tables_1_2) (g : goodWord w = true) : w ∈ ab_tb := List.mem_filter.mpr ⟨List.mem_append_right _ (List.mem_append_right _ (List.mem_append_left _ h)), g⟩
theorem ab_t3 {w : Cond} (h : w ∈ tables_1_3) (g : goodWord w = true) : w ∈ ab_tb := List.mem_filter.mpr ⟨List.mem_append_right _ (List.mem_append_right _ (List.mem_append_right _ (List.mem_append_left _ h))), g⟩
theorem ab_t4 {w : Cond} (h : w ∈ tables_1_4) (g : goodWord w = true) : w ∈ ab_tb := List.mem_filter.mpr ⟨List.mem_append_right _ (List.mem_append_right _ (List.mem_append_right _ (List.mem_append_right _ (List.mem_append_left _ h)))), g⟩
theorem ab_t5 {w : Cond} (h : w ∈ tables_1_5) (g : goodWord w = true) : w ∈ ab_tb := List.mem_filter.mpr ⟨List.mem_append_right _ (List.mem_append_right _ (List.mem_append_right _ (List.mem_append_right _ (List.mem_append_right _ (List.mem_append_left _ h))))), g⟩
theorem ab_t6 {w : Cond} (h : w ∈ tables_1_6) (g : goodWord w = true) : w ∈ ab_tb := List.mem_filter.mpr ⟨List.mem_append_right _ (List.mem_append_right _ (List.mem_append_right _ (List.mem_append_right _ (List.mem_append_right _ (List.mem_append_right _ h))))), g⟩
theorem ab_tp {w : Cond} (h : w ∈ k2_sels lw_privs) (g : goodWord w = true) : w ∈ ab_tb := List.mem_filter.mpr ⟨List.mem_append_left _ h, g⟩
theorem in_Jx4a65c : ∀ w ∈ u_ws RJx4a65c TJx4a65c 3, w ∈ ab_tb := by
  intro w hw
  obtain ⟨k, hk, rfl⟩ := List.mem_map.mp hw
  have hk := List.mem_range.mp hk
  match k, hk with
  | 0, _ => exact (ab_t1 (List.mem_of_getElem? (i := 95) rfl) rfl)
  | 1, _ => exact (ab_t1 (List.mem_of_getElem? (i := 91) rfl) rfl)
  | 2, _ => exact (ab_t1 (List.mem_of_getElem? (i := 93) rfl) rfl)
  | k + 3, h => exact absurd h (by omega)
theorem in_X0 : ∀ w ∈ u_ws RX0 TX0 5, w ∈ ab_tb := by
  intro w hw
  obtain ⟨k, hk, rfl⟩ := List.mem_map.mp hw
  have hk := List.mem_range.mp hk
  match k, hk with
  | 0, _ => exact (ab_t3 (List.mem_of_getElem? (i := 184) rfl) rfl)
  | 1, _ => exact (ab_t3 (List.mem_of_getElem? (i := 186) rfl) rfl)
  | 2, _ => exact (ab_t3 (List.mem_of_getElem? (i := 188) rfl) rfl)
  | 3, _ => exact (ab_t3 (List.mem_of_getElem? (i := 190) rfl) rfl)
  | 4, _ => exact (ab_t3 (List.mem_of_getElem? (i := 192) rfl) rfl)
  | k + 5, h => exact absurd h (by omega)
theorem in_X1 : ∀ w ∈ u_ws RX1 TX1 4, w ∈ ab_tb := by
  intro w hw
  obtain ⟨k, hk, rfl⟩ := List.mem_map.mp hw
  have hk := List.mem_range.mp hk
  match k, hk with
  | 0, _ => exact (ab_t1 (List.mem_of_getElem? (i := 186) rfl) rfl)
  | 1, _ => exact (ab_t1 (List.mem_of_getElem? (i := 188) rfl) rfl)
  | 2, _ => exact (ab_t1 (List.mem_of_getElem? (i := 190) rfl) rfl)
  | 3, _ => exact (ab_t1 (List.mem_of_getElem? (i := 192) rfl) rfl)
  | k + 4, h => exact absurd h (by omega)
theorem in_X2 : ∀ w ∈ u_ws RX2 TX2 2, w ∈ ab_tb := by
  intro w hw
  obtain ⟨k, hk, rfl⟩ := List.mem_map.mp hw
  have hk := List.mem_range.mp hk
  match k, hk with
  | 0, _ => exact (ab_t1 (List.mem_of_getElem? (i := 203) rfl) rfl)
  | 1, _ => exact (ab_t1 (List.mem_of_getElem? (i := 205) rfl) rfl)
  | k + 2, h => exact absurd h (by omega)
theorem in_X3 : ∀ w ∈ u_ws RX3 TX3 3, w ∈ ab_tb := by
  intro w hw
  obtain ⟨k, hk, rfl⟩ := List.mem_map.mp hw
  have hk := List.mem_range.mp hk
  match k, hk with
  | 0, _ => exact (ab_t1 (List.mem_of_getElem? (i := 169) rfl) rfl)
  | 1, _ => exact (ab_t1 (List.mem_of_getElem? (i := 171) rfl) rfl)
  | 2, _ => exact (ab_t1 (List.mem_of_getElem? (i := 173) rfl) rfl)
  | k + 3, h => exact absurd h (by omega)
theorem in_X4 : ∀ w ∈ u_ws RX4 TX4 3, w ∈ ab_tb := by
  intro w hw
  obtain ⟨k, hk, rfl⟩ := List.mem_map.mp hw
  have hk := List.mem_range.mp hk
  match k, hk with
  | 0, _ => exact (ab_t1 (List.mem_of_getElem? (i := 138) rfl) rfl)
  | 1, _ => exact (ab_t1 (List.mem_of_getElem? (i := 140) rfl) rfl)
  | 2, _ => exact (ab_t1 (List.mem_of_getElem? (i := 142) rfl) rfl)
  | k + 3, h => exact absurd h (by omega)
theorem in_X5 : ∀ w ∈ u_ws RX5 TX5 4, w ∈ ab_tb := by
  intro w hw
  obtain ⟨k, hk, rfl⟩ := List.mem_map.mp hw
  have hk := List.mem_range.mp hk
  match k, hk with
  | 0, _ => exact (ab_t1 (List.mem_of_getElem? (i := 61) rfl) rfl)
  | 1, _ => exact (ab_t1 (List.mem_of_getElem? (i := 63) rfl) rfl)
  | 2, _ => exact (ab_t1 (List.mem_of_getElem? (i := 65) rfl) rfl)
  | 3, _ => exact (ab_t1 (List.mem_of_getElem? (i := 67) rfl) rfl)
  | k + 4, h => exact absurd h (by omega)
theorem in_X6 : ∀ w ∈ u_ws RX6 TX6 2, w ∈ ab_tb := by
  intro w hw
  obtain ⟨k, hk, rfl⟩ := List.mem_map.mp hw
  have hk := List.mem_range.mp hk
  match k, hk with
  | 0, _ => exact (ab_t1 (List.mem_of_getElem? (i := 116) rfl) rfl)
  | 1, _ => exact (ab_t1 (List.mem_of_getElem? (i := 118) rfl) rfl)
  | k + 2, h => exact absurd h (by omega)
theorem in_X7 : ∀ w ∈ u_ws RX7 TX7 3, w ∈ ab_tb := by
  intro w hw
  obtain ⟨k, hk, rfl⟩ := List.mem_map.mp hw
  have hk := List.mem_range.mp hk
  match k, hk with
  | 0, _ => exact (ab_t1 (List.mem_of_getElem? (i := 150) rfl) rfl)
  | 1, _ => exact (ab_t1 (List.mem_of_getElem? (i := 152) rfl) rfl)
  | 2, _ => exact (ab_t1 (List.mem_of_getElem? (i := 154) rfl) rfl)
  | k + 3, h => exact absurd h (by omega)
theorem in_X8 : ∀ w ∈ u_ws RX8 TX8 6, w ∈ ab_tb := by
  intro w hw
  obtain ⟨k, hk, rfl⟩ := List.mem_map.mp hw
  have hk := List.mem_range.mp hk
  match k, hk with
  | 0, _ => exact (ab_t2 (List.mem_of_getElem? (i := 140) rfl) rfl)
  | 1, _ => exact (ab_t2 (List.mem_of_getElem? (i := 142) rfl) rfl)
  | 2, _ => exact (ab_t2 (List.mem_of_getElem? (i := 144) rfl) rfl)
  | 3, _ => exact (ab_t2 (List.mem_of_getElem? (i := 146) rfl) rfl)
  | 4, _ => exact (ab_t2 (List.mem_of_getElem? (i := 148) rfl) rfl)
  | 5, _ => exact (ab_t2 (List.mem_of_getElem? (i := 150) rfl) rfl)
  | k + 6, h => exact absurd h (by omega)
theorem in_X9 : ∀ w ∈ u_ws RX9 TX9 13, w ∈ ab_tb := by
  intro w hw
  obtain ⟨k, hk, rfl⟩ := List.mem_map.mp hw
  have hk := List.mem_range.mp hk
  match k, hk with
  | 0, _ => exact (ab_t1 (List.mem_of_getElem? (i := 221) rfl) rfl)
  | 1, _ => exact (ab_t1 (List.mem_of_getElem? (i := 223) rfl) rfl)
  | 2, _ => exact (ab_t1 (List.mem_of_getElem? (i := 225) rfl) rfl)
  | 3, _ => exact (ab_t1 (List.mem_of_getElem? (i := 227) rfl) rfl)
  | 4, _ => exact (ab_t1 (List.mem_of_getElem? (i := 229) rfl) rfl)
  | 5, _ => exact (ab_t1 (List.mem_of_getElem? (i := 231) rfl) rfl)
  | 6, _ => exact (ab_t1 (List.mem_of_getElem? (i := 233) rfl) rfl)
  | 7, _ => exact (ab_t1 (List.mem_of_getElem? (i := 235) rfl) rfl)
  | 8, _ => exact (ab_t1 (List.mem_of_getElem? (i := 237) rfl) rfl)
  | 9, _ => exact (ab_t1 (List.mem_of_getElem? (i := 239) rfl) rfl)
  | 10, _ => exact (ab_t2 (List.mem_of_getElem? (i := 1) rfl) rfl)
  | 11, _ => exact (ab_t2 (List.mem_of_getElem? (i := 3) rfl) rfl)
  | 12, _ => exact (ab_t2 (List.mem_of_getElem? (i := 5) rfl) rfl)
  | k + 13, h => exact absurd h (by omega)
theorem in_X10 : ∀ w ∈ u_ws RX10 TX10 38, w ∈ ab_tb := by
  intro w hw
  obtain ⟨k, hk, rfl⟩ := List.mem_map.mp hw
  have hk := List.mem_range.mp hk
  match k, hk with
  | 0, _ => exact (ab_t5 (List.mem_of_getElem? (i := 27) rfl) rfl)
  | 1, _ => exact (ab_t5 (List.mem_of_getElem? (i := 29) rfl) rfl)
  | 2, _ => exact (ab_t5 (List.mem_of_getElem? (i := 31) rfl) rfl)
  | 3, _ => exact (ab_t5 (List.mem_of_getElem? (i := 33) rfl) rfl)
  | 4, _ => exact (ab_t5 (List.mem_of_getElem? (i := 35) rfl) rfl)
  | 5, _ => exact (ab_t5 (List.mem_of_getElem? (i := 37) rfl) rfl)
  | 6, _ => exact (ab_t5 (List.mem_of_getElem? (i := 39) rfl) rfl)
  | 7, _ => exact (ab_t5 (List.mem_of_getElem? (i := 41) rfl) rfl)
  | 8, _ => exact (ab_t5 (List.mem_of_getElem? (i := 43) rfl) rfl)
  | 9, _ => exact (ab_t5 (List.mem_of_getElem? (i := 45) rfl) rfl)
  | 10, _ => exact (ab_t5 (List.mem_of_getElem? (i := 47) rfl) rfl)
  | 11, _ => exact (ab_t5 (List.mem_of_getElem? (i := 49) rfl) rfl)
  | 12, _ => exact (ab_t5 (List.mem_of_getElem? (i := 51) rfl) rfl)
  | 13, _ => exact (ab_t5 (List.mem_of_getElem? (i := 53) rfl) rfl)
  | 14, _ => exact (ab_t5 (List.mem_of_getElem? (i := 55) rfl) rfl)
  | 15, _ => exact (ab_t5 (List.mem_of_getElem? (i := 57) rfl) rfl)
  | 16, _ => exact (ab_t5 (List.mem_of_getElem? (i := 59) rfl) rfl)
  | 17, _ => exact (ab_t5 (List.mem_of_getElem? (i := 61) rfl) rfl)
  | 18, _ => exact (ab_t5 (List.mem_of_getElem? (i := 63) rfl) rfl)
  | 19, _ => exact (ab_t5 (List.mem_of_getElem? (i := 65) rfl) rfl)
  | 20, _ => exact (ab_t5 (List.mem_of_getElem? (i := 67) rfl) rfl)
  | 21, _ => exact (ab_t5 (List.mem_of_getElem? (i := 69) rfl) rfl)
  | 22, _ => exact (ab_t5 (List.mem_of_getElem? (i := 71) rfl) rfl)
  | 23, _ => exact (ab_t5 (List.mem_of_getElem? (i := 73) rfl) rfl)
  | 24, _ => exact (ab_t5 (List.mem_of_getElem? (i := 75) rfl) rfl)
  | 25, _ => exact (ab_t5 (List.mem_of_getElem? (i := 77) rfl) rfl)
  | 26, _ => exact (ab_t5 (List.mem_of_getElem? (i := 79) rfl) rfl)
  | 27, _ => exact (ab_t5 (List.mem_of_getElem? (i := 81) rfl) rfl)
  | 28, _ => exact (ab_t5 (List.mem_of_getElem? (i := 83) rfl) rfl)
  | 29, _ => exact (ab_t5 (List.mem_of_getElem? (i := 85) rfl) rfl)
  | 30, _ => exact (ab_t5 (List.mem_of_getElem? (i := 87) rfl) rfl)
  | 31, _ => exact (ab_t5 (List.mem_of_getElem? (i := 89) rfl) rfl)
  | 32, _ => exact (ab_t5 (List.mem_of_getElem? (i := 91) rfl) rfl)
  | 33, _ => exact (ab_t5 (List.mem_of_getElem? (i := 93) rfl) rfl)
  | 34, _ => exact (ab_t5 (List.mem_of_getElem? (i := 95) rfl) rfl)
  | 35, _ => exact (ab_t5 (List.mem_of_getElem? (i := 97) rfl) rfl)
  | 36, _ => exact (ab_t5 (List.mem_of_getElem? (i := 99) rfl) rfl)
  | 37, _ => exact (ab_t5 (List.mem_of_getElem? (i := 101) rfl) rfl)
  | k + 38, h => exact absurd h (by omega)
theorem fl_X5_9 : ab_Fl RX5 9 6 0 := ⟨(RX5, TX5, 4), rfl, by decide, in_X5, "BergPatrol$Sea", (ab_t1 (List.mem_of_getElem? (i := 49) rfl) rfl), Or.inl rfl⟩
theorem fp_X5_9 : ab_Fp RX5 9 6 0 (.array .boolean) true := ⟨fl_X5_9, fun r hr => by cases hr; exact ⟨⟨tyX5, tyX5_ok⟩, nmX5, by decide +kernel, rfl, fun _ => rfl⟩⟩
theorem fl_X0_59 : ab_Fl RX0 59 6 0 := ⟨(RX5, TX5, 4), rfl, by decide, in_X5, "BergPatrol$Sea", (ab_t1 (List.mem_of_getElem? (i := 50) rfl) rfl), Or.inl rfl⟩
theorem fl_X9_116 : ab_Fl RX9 116 6 0 := ⟨(RX5, TX5, 4), rfl, by decide, in_X5, "BergPatrol$Sea", (ab_t1 (List.mem_of_getElem? (i := 51) rfl) rfl), Or.inl rfl⟩
theorem fl_X5_15 : ab_Fl RX5 15 6 1 := ⟨(RX5, TX5, 4), rfl, by decide, in_X5, "BergPatrol$Sea", (ab_t1 (List.mem_of_getElem? (i := 52) rfl) rfl), Or.inl rfl⟩
theorem fp_X5_15 : ab_Fp RX5 15 6 1 (.array .int) true := ⟨fl_X5_15, fun r hr => by cases hr; exact ⟨⟨tyX5, tyX5_ok⟩, nmX5, by decide +kernel, rfl, fun _ => rfl⟩⟩
theorem fl_X0_47 : ab_Fl RX0 47 6 1 := ⟨(RX5, TX5, 4), rfl, by decide, in_X5, "BergPatrol$Sea", (ab_t1 (List.mem_of_getElem? (i := 53) rfl) rfl), Or.inl rfl⟩
theorem fl_X9_99 : ab_Fl RX9 99 6 1 := ⟨(RX5, TX5, 4), rfl, by decide, in_X5, "BergPatrol$Sea", (ab_t1 (List.mem_of_getElem? (i := 54) rfl) rfl), Or.inl rfl⟩
theorem fl_X5_19 : ab_Fl RX5 19 6 2 := ⟨(RX5, TX5, 4), rfl, by decide, in_X5, "BergPatrol$Sea", (ab_t1 (List.mem_of_getElem? (i := 55) rfl) rfl), Or.inl rfl⟩
theorem fp_X5_19 : ab_Fp RX5 19 6 2 (.array .int) true := ⟨fl_X5_19, fun r hr => by cases hr; exact ⟨⟨tyX5, tyX5_ok⟩, nmX5, by decide +kernel, rfl, fun _ => rfl⟩⟩
theorem fl_X0_52 : ab_Fl RX0 52 6 2 := ⟨(RX5, TX5, 4), rfl, by decide, in_X5, "BergPatrol$Sea", (ab_t1 (List.mem_of_getElem? (i := 56) rfl) rfl), Or.inl rfl⟩
theorem fl_X9_102 : ab_Fl RX9 102 6 2 := ⟨(RX5, TX5, 4), rfl, by decide, in_X5, "BergPatrol$Sea", (ab_t1 (List.mem_of_getElem? (i := 57) rfl) rfl), Or.inl rfl⟩
theorem fl_X5_22 : ab_Fl RX5 22 6 3 := ⟨(RX5, TX5, 4), rfl, by decide, in_X5, "BergPatrol$Sea", (ab_t1 (List.mem_of_getElem? (i := 58) rfl) rfl), Or.inl rfl⟩
theorem fp_X5_22 : ab_Fp RX5 22 6 3 (.array .int) true := ⟨fl_X5_22, fun r hr => by cases hr; exact ⟨⟨tyX5, tyX5_ok⟩, nmX5, by decide +kernel, rfl, fun _ => rfl⟩⟩
theorem fl_X9_105 : ab_Fl RX9 105 6 3 := ⟨(RX5, TX5, 4), rfl, by decide, in_X5, "BergPatrol$Sea", (ab_t1 (List.mem_of_getElem? (i := 59) rfl) rfl), Or.inl rfl⟩
theorem fl_X0_73 : ab_Fl RX0 73 6 3 := ⟨(RX5, TX5, 4), rfl, by decide, in_X5, "BergPatrol$Sea", (ab_t1 (List.mem_of_getElem? (i := 60) rfl) rfl), Or.inl rfl⟩
theorem fl_Jx4a65c_9 : ab_Fl RJx4a65c 9 0 1 := ⟨(RJx4a65c, TJx4a65c, 3), rfl, by decide, in_Jx4a65c, "java/util/ArrayList", (ab_t1 (List.mem_of_getElem? (i := 86) rfl) rfl), Or.inl rfl⟩
theorem fp_Jx4a65c_9 : ab_Fp RJx4a65c 9 0 1 (.array (.object "java/lang/Object")) false := ⟨fl_Jx4a65c_9, fun r hr => by cases hr; exact ⟨⟨tyJx4a65c, tyJx4a65c_ok⟩, nmJx4a65c, by decide +kernel, rfl, fun h => by cases h⟩⟩
theorem fl_Jx4a65c_48 : ab_Fl RJx4a65c 48 0 2 := ⟨(RJx4a65c, TJx4a65c, 3), rfl, by decide, in_Jx4a65c, "java/util/ArrayList", (ab_t1 (List.mem_of_getElem? (i := 87) rfl) rfl), Or.inl rfl⟩
theorem fp_Jx4a65c_48 : ab_Fp RJx4a65c 48 0 2 (.int) false := ⟨fl_Jx4a65c_48, fun r hr => by cases hr; exact ⟨⟨tyJx4a65c, tyJx4a65c_ok⟩, nmJx4a65c, by decide +kernel, rfl, fun h => by cases h⟩⟩
theorem fl_Jx4a65c_63 : ab_Fl RJx4a65c 63 0 0 := ⟨(RJx4a65c, TJx4a65c, 3), rfl, by decide, in_Jx4a65c, "java/util/ArrayList", (ab_t1 (List.mem_of_getElem? (i := 89) rfl) rfl), Or.inr (ab_t1 (List.mem_of_getElem? (i := 90) rfl) rfl)⟩
theorem fp_Jx4a65c_63 : ab_Fp RJx4a65c 63 0 0 (.int) false := ⟨fl_Jx4a65c_63, fun r hr => by cases hr; exact ⟨⟨tyJx4a65c, tyJx4a65c_ok⟩, nmJx4a65c, by decide +kernel, rfl, fun h => by cases h⟩⟩
theorem fl_X6_9 : ab_Fl RX6 9 7 0 := ⟨(RX6, TX6, 2), rfl, by decide, in_X6, "BergPatrol$Tape", (ab_t1 (List.mem_of_getElem? (i := 110) rfl) rfl), Or.inl rfl⟩
theorem fp_X6_9 : ab_Fp RX6 9 7 0 (.array .int) true := ⟨fl_X6_9, fun r hr => by cases hr; exact ⟨⟨tyX6, tyX6_ok⟩, nmX6, by decide +kernel, rfl, fun _ => rfl⟩⟩
theorem fl_X7_77 : ab_Fl RX7 77 7 0 := ⟨(RX6, TX6, 2), rfl, by decide, in_X6, "BergPatrol$Tape", (ab_t1 (List.mem_of_getElem? (i := 111) rfl) rfl), Or.inl rfl⟩
theorem fl_X9_252 : ab_Fl RX9 252 7 0 := ⟨(RX6, TX6, 2), rfl, by decide, in_X6, "BergPatrol$Tape", (ab_t1 (List.mem_of_getElem? (i := 112) rfl) rfl), Or.inl rfl⟩
theorem fl_X6_15 : ab_Fl RX6 15 7 1 := ⟨(RX6, TX6, 2), rfl, by decide, in_X6, "BergPatrol$Tape", (ab_t1 (List.mem_of_getElem? (i := 113) rfl) rfl), Or.inl rfl⟩
theorem fp_X6_15 : ab_Fp RX6 15 7 1 (.int) false := ⟨fl_X6_15, fun r hr => by cases hr; exact ⟨⟨tyX6, tyX6_ok⟩, nmX6, by decide +kernel, rfl, fun h => by cases h⟩⟩
theorem fl_X9_76 : ab_Fl RX9 76 7 1 := ⟨(RX6, TX6, 2), rfl, by decide, in_X6, "BergPatrol$Tape", (ab_t1 (List.mem_of_getElem? (i := 114) rfl) rfl), Or.inl rfl⟩
theorem fp_X9_76 : ab_Fp RX9 76 7 1 (.int) false := ⟨fl_X9_76, fun r hr => by cases hr; exact ⟨⟨tyX6, tyX6_ok⟩, nmX6, by decide +kernel, rfl, fun h => by cases h⟩⟩
theorem fl_X7_46 : ab_Fl RX7 46 7 1 := ⟨(RX6, TX6, 2), rfl, by decide, in_X6, "BergPatrol$Tape", (ab_t1 (List.mem_of_getElem? (i := 115) rfl) rfl), Or.inl rfl⟩
theorem fl_X4_9 : ab_Fl RX4 9 5 0 := ⟨(RX4, TX4, 3), rfl, by decide, in_X4, "BergPatrol$Ring", (ab_t1 (List.mem_of_getElem? (i := 127) rfl) rfl), Or.inl rfl⟩
theorem fp_X4_9 : ab_Fp RX4 9 5 0 (.array .int) true := ⟨fl_X4_9, fun r hr => by cases hr; exact ⟨⟨tyX4, tyX4_ok⟩, nmX4, by decide +kernel, rfl, fun _ => rfl⟩⟩
theorem fl_X8_24 : ab_Fl RX8 24 5 0 := ⟨(RX4, TX4, 3), rfl, by decide, in_X4, "BergPatrol$Ring", (ab_t1 (List.mem_of_getElem? (i := 128) rfl) rfl), Or.inl rfl⟩
theorem fl_X9_208 : ab_Fl RX9 208 5 0 := ⟨(RX4, TX4, 3), rfl, by decide, in_X4, "BergPatrol$Ring", (ab_t1 (List.mem_of_getElem? (i := 129) rfl) rfl), Or.inl rfl⟩
theorem fl_X4_15 : ab_Fl RX4 15 5 1 := ⟨(RX4, TX4, 3), rfl, by decide, in_X4, "BergPatrol$Ring", (ab_t1 (List.mem_of_getElem? (i := 130) rfl) rfl), Or.inl rfl⟩
theorem fp_X4_15 : ab_Fp RX4 15 5 1 (.array .int) true := ⟨fl_X4_15, fun r hr => by cases hr; exact ⟨⟨tyX4, tyX4_ok⟩, nmX4, by decide +kernel, rfl, fun _ => rfl⟩⟩
theorem fl_X8_37 : ab_Fl RX8 37 5 1 := ⟨(RX4, TX4, 3), rfl, by decide, in_X4, "BergPatrol$Ring", (ab_t1 (List.mem_of_getElem? (i := 131) rfl) rfl), Or.inl rfl⟩
theorem fl_X9_205 : ab_Fl RX9 205 5 1 := ⟨(RX4, TX4, 3), rfl, by decide, in_X4, "BergPatrol$Ring", (ab_t1 (List.mem_of_getElem? (i := 132) rfl) rfl), Or.inl rfl⟩
theorem fl_X8_9 : ab_Fl RX8 9 5 2 := ⟨(RX4, TX4, 3), rfl, by decide, in_X4, "BergPatrol$Ring", (ab_t1 (List.mem_of_getElem? (i := 133) rfl) rfl), Or.inl rfl⟩
theorem fl_X4_18 : ab_Fl RX4 18 5 2 := ⟨(RX4, TX4, 3), rfl, by decide, in_X4, "BergPatrol$Ring", (ab_t1 (List.mem_of_getElem? (i := 134) rfl) rfl), Or.inl rfl⟩
theorem fp_X4_18 : ab_Fp RX4 18 5 2 (.int) false := ⟨fl_X4_18, fun r hr => by cases hr; exact ⟨⟨tyX4, tyX4_ok⟩, nmX4, by decide +kernel, rfl, fun h => by cases h⟩⟩
theorem fl_X7_29 : ab_Fl RX7 29 5 2 := ⟨(RX4, TX4, 3), rfl, by decide, in_X4, "BergPatrol$Ring", (ab_t1 (List.mem_of_getElem? (i := 135) rfl) rfl), Or.inl rfl⟩
theorem fp_X7_29 : ab_Fp RX7 29 5 2 (.int) false := ⟨fl_X7_29, fun r hr => by cases hr; exact ⟨⟨tyX4, tyX4_ok⟩, nmX4, by decide +kernel, rfl, fun h => by cases h⟩⟩
theorem fl_X3_35 : ab_Fl RX3 35 5 2 := ⟨(RX4, TX4, 3), rfl, by decide, in_X4, "BergPatrol$Ring", (ab_t1 (List.mem_of_getElem? (i := 136) rfl) rfl), Or.inl rfl⟩
theorem fp_X3_35 : ab_Fp RX3 35 5 2 (.int) false := ⟨fl_X3_35, fun r hr => by cases hr; exact ⟨⟨tyX4, tyX4_ok⟩, nmX4, by decide +kernel, rfl, fun h => by cases h⟩⟩
theorem fl_X9_202 : ab_Fl RX9 202 5 2 := ⟨(RX4, TX4, 3), rfl, by decide, in_X4, "BergPatrol$Ring", (ab_t1 (List.mem_of_getElem? (i := 137) rfl) rfl), Or.inl rfl⟩
theorem fl_X7_12 : ab_Fl RX7 12 8 0 := ⟨(RX7, TX7, 3), rfl, by decide, in_X7, "BergPatrol$Text", (ab_t1 (List.mem_of_getElem? (i := 145) rfl) rfl), Or.inl rfl⟩
theorem fp_X7_12 : ab_Fp RX7 12 8 0 (.object "BergPatrol$Tape") true := ⟨fl_X7_12, fun r hr => by cases hr; exact ⟨⟨tyX7, tyX7_ok⟩, nmX7, by decide +kernel, rfl, fun _ => rfl⟩⟩
theorem fl_X9_33 : ab_Fl RX9 33 8 0 := ⟨(RX7, TX7, 3), rfl, by decide, in_X7, "BergPatrol$Text", (ab_t1 (List.mem_of_getElem? (i := 146) rfl) rfl), Or.inl rfl⟩
theorem fl_X7_21 : ab_Fl RX7 21 8 1 := ⟨(RX7, TX7, 3), rfl, by decide, in_X7, "BergPatrol$Text", (ab_t1 (List.mem_of_getElem? (i := 147) rfl) rfl), Or.inl rfl⟩
theorem fp_X7_21 : ab_Fp RX7 21 8 1 (.object "BergPatrol$Ring") true := ⟨fl_X7_21, fun r hr => by cases hr; exact ⟨⟨tyX7, tyX7_ok⟩, nmX7, by decide +kernel, rfl, fun _ => rfl⟩⟩
theorem fl_X9_222 : ab_Fl RX9 222 8 1 := ⟨(RX7, TX7, 3), rfl, by decide, in_X7, "BergPatrol$Text", (ab_t1 (List.mem_of_getElem? (i := 148) rfl) rfl), Or.inl rfl⟩
theorem fl_X7_25 : ab_Fl RX7 25 8 2 := ⟨(RX7, TX7, 3), rfl, by decide, in_X7, "BergPatrol$Text", (ab_t1 (List.mem_of_getElem? (i := 149) rfl) rfl), Or.inl rfl⟩
theorem fp_X7_25 : ab_Fp RX7 25 8 2 (.int) false := ⟨fl_X7_25, fun r hr => by cases hr; exact ⟨⟨tyX7, tyX7_ok⟩, nmX7, by decide +kernel, rfl, fun h => by cases h⟩⟩
theorem fl_X3_12 : ab_Fl RX3 12 4 0 := ⟨(RX3, TX3, 3), rfl, by decide, in_X3, "BergPatrol$Hull", (ab_t1 (List.mem_of_getElem? (i := 165) rfl) rfl), Or.inl rfl⟩
theorem fp_X3_12 : ab_Fp RX3 12 4 0 (.object "BergPatrol$Ring") true := ⟨fl_X3_12, fun r hr => by cases hr; exact ⟨⟨tyX3, tyX3_ok⟩, nmX3, by decide +kernel, rfl, fun _ => rfl⟩⟩
theorem fl_X9_198 : ab_Fl RX9 198 4 0 := ⟨(RX3, TX3, 3), rfl, by decide, in_X3, "BergPatrol$Hull", (ab_t1 (List.mem_of_getElem? (i := 166) rfl) rfl), Or.inl rfl⟩
theorem fl_X3_18 : ab_Fl RX3 18 4 1 := ⟨(RX3, TX3, 3), rfl, by decide, in_X3, "BergPatrol$Hull", (ab_t1 (List.mem_of_getElem? (i := 167) rfl) rfl), Or.inl rfl⟩
theorem fp_X3_18 : ab_Fp RX3 18 4 1 (.array .int) true := ⟨fl_X3_18, fun r hr => by cases hr; exact ⟨⟨tyX3, tyX3_ok⟩, nmX3, by decide +kernel, rfl, fun _ => rfl⟩⟩
theorem fl_X3_22 : ab_Fl RX3 22 4 2 := ⟨(RX3, TX3, 3), rfl, by decide, in_X3, "BergPatrol$Hull", (ab_t1 (List.mem_of_getElem? (i := 168) rfl) rfl), Or.inl rfl⟩
theorem fp_X3_22 : ab_Fp RX3 22 4 2 (.array .int) true := ⟨fl_X3_22, fun r hr => by cases hr; exact ⟨⟨tyX3, tyX3_ok⟩, nmX3, by decide +kernel, rfl, fun _ => rfl⟩⟩
theorem fl_X1_9 : ab_Fl RX1 9 2 0 := ⟨(RX1, TX1, 4), rfl, by decide, in_X1, "BergPatrol$Chart", (ab_t1 (List.mem_of_getElem? (i := 182) rfl) rfl), Or.inl rfl⟩
theorem fp_X1_9 : ab_Fp RX1 9 2 0 (.array .boolean) true := ⟨fl_X1_9, fun r hr => by cases hr; exact ⟨⟨tyX1, tyX1_ok⟩, nmX1, by decide +kernel, rfl, fun _ => rfl⟩⟩
theorem fl_X1_15 : ab_Fl RX1 15 2 1 := ⟨(RX1, TX1, 4), rfl, by decide, in_X1, "BergPatrol$Chart", (ab_t1 (List.mem_of_getElem? (i := 183) rfl) rfl), Or.inl rfl⟩
theorem fp_X1_15 : ab_Fp RX1 15 2 1 (.array .int) true := ⟨fl_X1_15, fun r hr => by cases hr; exact ⟨⟨tyX1, tyX1_ok⟩, nmX1, by decide +kernel, rfl, fun _ => rfl⟩⟩
theorem fl_X1_19 : ab_Fl RX1 19 2 2 := ⟨(RX1, TX1, 4), rfl, by decide, in_X1, "BergPatrol$Chart", (ab_t1 (List.mem_of_getElem? (i := 184) rfl) rfl), Or.inl rfl⟩
theorem fp_X1_19 : ab_Fp RX1 19 2 2 (.array .int) true := ⟨fl_X1_19, fun r hr => by cases hr; exact ⟨⟨tyX1, tyX1_ok⟩, nmX1, by decide +kernel, rfl, fun _ => rfl⟩⟩
theorem fl_X1_22 : ab_Fl RX1 22 2 3 := ⟨(RX1, TX1, 4), rfl, by decide, in_X1, "BergPatrol$Chart", (ab_t1 (List.mem_of_getElem? (i := 185) rfl) rfl), Or.inl rfl⟩
theorem fp_X1_22 : ab_Fp RX1 22 2 3 (.int) false := ⟨fl_X1_22, fun r hr => by cases hr; exact ⟨⟨tyX1, tyX1_ok⟩, nmX1, by decide +kernel, rfl, fun h => by cases h⟩⟩
theorem fl_X2_9 : ab_Fl RX2 9 3 0 := ⟨(RX2, TX2, 2), rfl, by decide, in_X2, "BergPatrol$Heights", (ab_t1 (List.mem_of_getElem? (i := 201) rfl) rfl), Or.inl rfl⟩
theorem fp_X2_9 : ab_Fp RX2 9 3 0 (.array .int) true := ⟨fl_X2_9, fun r hr => by cases hr; exact ⟨⟨tyX2, tyX2_ok⟩, nmX2, by decide +kernel, rfl, fun _ => rfl⟩⟩
theorem fl_X2_15 : ab_Fl RX2 15 3 1 := ⟨(RX2, TX2, 2), rfl, by decide, in_X2, "BergPatrol$Heights", (ab_t1 (List.mem_of_getElem? (i := 202) rfl) rfl), Or.inl rfl⟩
theorem fp_X2_15 : ab_Fp RX2 15 3 1 (.array .int) true := ⟨fl_X2_15, fun r hr => by cases hr; exact ⟨⟨tyX2, tyX2_ok⟩, nmX2, by decide +kernel, rfl, fun _ => rfl⟩⟩
theorem fl_X9_12 : ab_Fl RX9 12 10 0 := ⟨(RX9, TX9, 13), rfl, by decide, in_X9, "BergPatrol", (ab_t1 (List.mem_of_getElem? (i := 208) rfl) rfl), Or.inl rfl⟩
theorem fp_X9_12 : ab_Fp RX9 12 10 0 (.object "BergPatrol$Sea") true := ⟨fl_X9_12, fun r hr => by cases hr; exact ⟨⟨tyX9, tyX9_ok⟩, nmX9, by decide +kernel, rfl, fun _ => rfl⟩⟩
theorem fl_X9_19 : ab_Fl RX9 19 10 1 := ⟨(RX9, TX9, 13), rfl, by decide, in_X9, "BergPatrol", (ab_t1 (List.mem_of_getElem? (i := 209) rfl) rfl), Or.inl rfl⟩
theorem fp_X9_19 : ab_Fp RX9 19 10 1 (.object "java/util/ArrayList") true := ⟨fl_X9_19, fun r hr => by cases hr; exact ⟨⟨tyX9, tyX9_ok⟩, nmX9, by decide +kernel, rfl, fun _ => rfl⟩⟩
theorem fl_X9_23 : ab_Fl RX9 23 10 2 := ⟨(RX9, TX9, 13), rfl, by decide, in_X9, "BergPatrol", (ab_t1 (List.mem_of_getElem? (i := 210) rfl) rfl), Or.inl rfl⟩
theorem fp_X9_23 : ab_Fp RX9 23 10 2 (.object "java/util/ArrayList") true := ⟨fl_X9_23, fun r hr => by cases hr; exact ⟨⟨tyX9, tyX9_ok⟩, nmX9, by decide +kernel, rfl, fun _ => rfl⟩⟩
theorem fl_X9_37 : ab_Fl RX9 37 10 3 := ⟨(RX9, TX9, 13), rfl, by decide, in_X9, "BergPatrol", (ab_t1 (List.mem_of_getElem? (i := 211) rfl) rfl), Or.inl rfl⟩
theorem fp_X9_37 : ab_Fp RX9 37 10 3 (.object "BergPatrol$Tape") true := ⟨fl_X9_37, fun r hr => by cases hr; exact ⟨⟨tyX9, tyX9_ok⟩, nmX9, by decide +kernel, rfl, fun _ => rfl⟩⟩
theorem fl_X9_29 : ab_Fl RX9 29 10 4 := ⟨(RX9, TX9, 13), rfl, by decide, in_X9, "BergPatrol", (ab_t1 (List.mem_of_getElem? (i := 212) rfl) rfl), Or.inl rfl⟩
theorem fp_X9_29 : ab_Fp RX9 29 10 4 (.object "BergPatrol$Text") true := ⟨fl_X9_29, fun r hr => by cases hr; exact ⟨⟨tyX9, tyX9_ok⟩, nmX9, by decide +kernel, rfl, fun _ => rfl⟩⟩
theorem fl_X9_41 : ab_Fl RX9 41 10 5 := ⟨(RX9, TX9, 13), rfl, by decide, in_X9, "BergPatrol", (ab_t1 (List.mem_of_getElem? (i := 213) rfl) rfl), Or.inl rfl⟩
theorem fp_X9_41 : ab_Fp RX9 41 10 5 (.object "BergPatrol$Hull") true := ⟨fl_X9_41, fun r hr => by cases hr; exact ⟨⟨tyX9, tyX9_ok⟩, nmX9, by decide +kernel, rfl, fun _ => rfl⟩⟩
theorem fl_X9_48 : ab_Fl RX9 48 10 6 := ⟨(RX9, TX9, 13), rfl, by decide, in_X9, "BergPatrol", (ab_t1 (List.mem_of_getElem? (i := 214) rfl) rfl), Or.inl rfl⟩
theorem fp_X9_48 : ab_Fp RX9 48 10 6 (.object "BergPatrol$Chart") true := ⟨fl_X9_48, fun r hr => by cases hr; exact ⟨⟨tyX9, tyX9_ok⟩, nmX9, by decide +kernel, rfl, fun _ => rfl⟩⟩
theorem fl_X9_55 : ab_Fl RX9 55 10 7 := ⟨(RX9, TX9, 13), rfl, by decide, in_X9, "BergPatrol", (ab_t1 (List.mem_of_getElem? (i := 215) rfl) rfl), Or.inl rfl⟩
theorem fp_X9_55 : ab_Fp RX9 55 10 7 (.object "BergPatrol$Heights") true := ⟨fl_X9_55, fun r hr => by cases hr; exact ⟨⟨tyX9, tyX9_ok⟩, nmX9, by decide +kernel, rfl, fun _ => rfl⟩⟩
theorem fl_X9_59 : ab_Fl RX9 59 10 8 := ⟨(RX9, TX9, 13), rfl, by decide, in_X9, "BergPatrol", (ab_t1 (List.mem_of_getElem? (i := 216) rfl) rfl), Or.inl rfl⟩
theorem fp_X9_59 : ab_Fp RX9 59 10 8 (.array .int) true := ⟨fl_X9_59, fun r hr => by cases hr; exact ⟨⟨tyX9, tyX9_ok⟩, nmX9, by decide +kernel, rfl, fun _ => rfl⟩⟩
theorem fl_X9_63 : ab_Fl RX9 63 10 9 := ⟨(RX9, TX9, 13), rfl, by decide, in_X9, "BergPatrol", (ab_t1 (List.mem_of_getElem? (i := 217) rfl) rfl), Or.inl rfl⟩
theorem fp_X9_63 : ab_Fp RX9 63 10 9 (.array .int) true := ⟨fl_X9_63, fun r hr => by cases hr; exact ⟨⟨tyX9, tyX9_ok⟩, nmX9, by decide +kernel, rfl, fun _ => rfl⟩⟩
theorem fl_X9_66 : ab_Fl RX9 66 10 10 := ⟨(RX9, TX9, 13), rfl, by decide, in_X9, "BergPatrol", (ab_t1 (List.mem_of_getElem? (i := 218) rfl) rfl), Or.inl rfl⟩
theorem fp_X9_66 : ab_Fp RX9 66 10 10 (.int) false := ⟨fl_X9_66, fun r hr => by cases hr; exact ⟨⟨tyX9, tyX9_ok⟩, nmX9, by decide +kernel, rfl, fun h => by cases h⟩⟩
theorem fl_X9_70 : ab_Fl RX9 70 10 11 := ⟨(RX9, TX9, 13), rfl, by decide, in_X9, "BergPatrol", (ab_t1 (List.mem_of_getElem? (i := 219) rfl) rfl), Or.inl rfl⟩
theorem fp_X9_70 : ab_Fp RX9 70 10 11 (.int) false := ⟨fl_X9_70, fun r hr => by cases hr; exact ⟨⟨tyX9, tyX9_ok⟩, nmX9, by decide +kernel, rfl, fun h => by cases h⟩⟩
theorem fl_X9_73 : ab_Fl RX9 73 10 12 := ⟨(RX9, TX9, 13), rfl, by decide, in_X9, "BergPatrol", (ab_t1 (List.mem_of_getElem? (i := 220) rfl) rfl), Or.inl rfl⟩
theorem fp_X9_73 : ab_Fp RX9 73 10 12 (.int) false := ⟨fl_X9_73, fun r hr => by cases hr; exact ⟨⟨tyX9, tyX9_ok⟩, nmX9, by decide +kernel, rfl, fun h => by cases h⟩⟩
theorem fl_X8_34 : ab_Fl RX8 34 9 0 := ⟨(RX8, TX8, 6), rfl, by decide, in_X8, "BergPatrol$Warning", (ab_t2 (List.mem_of_getElem? (i := 129) rfl) rfl), Or.inl rfl⟩
theorem fp_X8_34 : ab_Fp RX8 34 9 0 (.array .int) true := ⟨fl_X8_34, fun r hr => by cases hr; exact ⟨⟨tyX8, tyX8_ok⟩, nmX8, by decide +kernel, rfl, fun _ => rfl⟩⟩
theorem fl_X9_242 : ab_Fl RX9 242 9 0 := ⟨(RX8, TX8, 6), rfl, by decide, in_X8, "BergPatrol$Warning", (ab_t2 (List.mem_of_getElem? (i := 130) rfl) rfl), Or.inl rfl⟩
theorem fl_X8_40 : ab_Fl RX8 40 9 1 := ⟨(RX8, TX8, 6), rfl, by decide, in_X8, "BergPatrol$Warning", (ab_t2 (List.mem_of_getElem? (i := 131) rfl) rfl), Or.inl rfl⟩
theorem fp_X8_40 : ab_Fp RX8 40 9 1 (.array .int) true := ⟨fl_X8_40, fun r hr => by cases hr; exact ⟨⟨tyX8, tyX8_ok⟩, nmX8, by decide +kernel, rfl, fun _ => rfl⟩⟩
theorem fl_X9_243 : ab_Fl RX9 243 9 1 := ⟨(RX8, TX8, 6), rfl, by decide, in_X8, "BergPatrol$Warning", (ab_t2 (List.mem_of_getElem? (i := 132) rfl) rfl), Or.inl rfl⟩
theorem fl_X8_41 : ab_Fl RX8 41 9 2 := ⟨(RX8, TX8, 6), rfl, by decide, in_X8, "BergPatrol$Warning", (ab_t2 (List.mem_of_getElem? (i := 133) rfl) rfl), Or.inl rfl⟩
theorem fp_X8_41 : ab_Fp RX8 41 9 2 (.int) true := ⟨fl_X8_41, fun r hr => by cases hr; exact ⟨⟨tyX8, tyX8_ok⟩, nmX8, by decide +kernel, rfl, fun _ => rfl⟩⟩
theorem fl_X8_44 : ab_Fl RX8 44 9 3 := ⟨(RX8, TX8, 6), rfl, by decide, in_X8, "BergPatrol$Warning", (ab_t2 (List.mem_of_getElem? (i := 134) rfl) rfl), Or.inl rfl⟩
theorem fp_X8_44 : ab_Fp RX8 44 9 3 (.array .int) true := ⟨fl_X8_44, fun r hr => by cases hr; exact ⟨⟨tyX8, tyX8_ok⟩, nmX8, by decide +kernel, rfl, fun _ => rfl⟩⟩
theorem fl_X1_26 : ab_Fl RX1 26 9 3 := ⟨(RX8, TX8, 6), rfl, by decide, in_X8, "BergPatrol$Warning", (ab_t2 (List.mem_of_getElem? (i := 135) rfl) rfl), Or.inl rfl⟩
theorem fl_X8_47 : ab_Fl RX8 47 9 4 := ⟨(RX8, TX8, 6), rfl, by decide, in_X8, "BergPatrol$Warning", (ab_t2 (List.mem_of_getElem? (i := 136) rfl) rfl), Or.inl rfl⟩
theorem fp_X8_47 : ab_Fp RX8 47 9 4 (.boolean) false := ⟨fl_X8_47, fun r hr => by cases hr; exact ⟨⟨tyX8, tyX8_ok⟩, nmX8, by decide +kernel, rfl, fun h => by cases h⟩⟩
theorem fl_X9_228 : ab_Fl RX9 228 9 4 := ⟨(RX8, TX8, 6), rfl, by decide, in_X8, "BergPatrol$Warning", (ab_t2 (List.mem_of_getElem? (i := 137) rfl) rfl), Or.inl rfl⟩
theorem fp_X9_228 : ab_Fp RX9 228 9 4 (.boolean) false := ⟨fl_X9_228, fun r hr => by cases hr; exact ⟨⟨tyX8, tyX8_ok⟩, nmX8, by decide +kernel, rfl, fun h => by cases h⟩⟩
theorem fl_X8_51 : ab_Fl RX8 51 9 5 := ⟨(RX8, TX8, 6), rfl, by decide, in_X8, "BergPatrol$Warning", (ab_t2 (List.mem_of_getElem? (i := 138) rfl) rfl), Or.inl rfl⟩
theorem fp_X8_51 : ab_Fp RX8 51 9 5 (.int) false := ⟨fl_X8_51, fun r hr => by cases hr; exact ⟨⟨tyX8, tyX8_ok⟩, nmX8, by decide +kernel, rfl, fun h => by cases h⟩⟩
theorem fl_X9_231 : ab_Fl RX9 231 9 5 := ⟨(RX8, TX8, 6), rfl, by decide, in_X8, "BergPatrol$Warning", (ab_t2 (List.mem_of_getElem? (i := 139) rfl) rfl), Or.inl rfl⟩
theorem fp_X9_231 : ab_Fp RX9 231 9 5 (.int) false := ⟨fl_X9_231, fun r hr => by cases hr; exact ⟨⟨tyX8, tyX8_ok⟩, nmX8, by decide +kernel, rfl, fun h => by cases h⟩⟩
theorem fl_X0_9 : ab_Fl RX0 9 1 0 := ⟨(RX0, TX0, 5), rfl, by decide, in_X0, "BergPatrol$Berg", (ab_t3 (List.mem_of_getElem? (i := 174) rfl) rfl), Or.inl rfl⟩
theorem fp_X0_9 : ab_Fp RX0 9 1 0 (.array .int) true := ⟨fl_X0_9, fun r hr => by cases hr; exact ⟨⟨tyX0, tyX0_ok⟩, nmX0, by decide +kernel, rfl, fun _ => rfl⟩⟩
theorem fl_X9_164 : ab_Fl RX9 164 1 0 := ⟨(RX0, TX0, 5), rfl, by decide, in_X0, "BergPatrol$Berg", (ab_t3 (List.mem_of_getElem? (i := 175) rfl) rfl), Or.inl rfl⟩
theorem fl_X0_15 : ab_Fl RX0 15 1 1 := ⟨(RX0, TX0, 5), rfl, by decide, in_X0, "BergPatrol$Berg", (ab_t3 (List.mem_of_getElem? (i := 176) rfl) rfl), Or.inl rfl⟩
theorem fp_X0_15 : ab_Fp RX0 15 1 1 (.int) false := ⟨fl_X0_15, fun r hr => by cases hr; exact ⟨⟨tyX0, tyX0_ok⟩, nmX0, by decide +kernel, rfl, fun h => by cases h⟩⟩
theorem fl_X9_167 : ab_Fl RX9 167 1 1 := ⟨(RX0, TX0, 5), rfl, by decide, in_X0, "BergPatrol$Berg", (ab_t3 (List.mem_of_getElem? (i := 177) rfl) rfl), Or.inl rfl⟩
theorem fl_X0_19 : ab_Fl RX0 19 1 2 := ⟨(RX0, TX0, 5), rfl, by decide, in_X0, "BergPatrol$Berg", (ab_t3 (List.mem_of_getElem? (i := 178) rfl) rfl), Or.inl rfl⟩
theorem fp_X0_19 : ab_Fp RX0 19 1 2 (.int) false := ⟨fl_X0_19, fun r hr => by cases hr; exact ⟨⟨tyX0, tyX0_ok⟩, nmX0, by decide +kernel, rfl, fun h => by cases h⟩⟩
theorem fl_X9_169 : ab_Fl RX9 169 1 2 := ⟨(RX0, TX0, 5), rfl, by decide, in_X0, "BergPatrol$Berg", (ab_t3 (List.mem_of_getElem? (i := 179) rfl) rfl), Or.inl rfl⟩
theorem fl_X0_22 : ab_Fl RX0 22 1 3 := ⟨(RX0, TX0, 5), rfl, by decide, in_X0, "BergPatrol$Berg", (ab_t3 (List.mem_of_getElem? (i := 180) rfl) rfl), Or.inl rfl⟩
theorem fp_X0_22 : ab_Fp RX0 22 1 3 (.int) false := ⟨fl_X0_22, fun r hr => by cases hr; exact ⟨⟨tyX0, tyX0_ok⟩, nmX0, by decide +kernel, rfl, fun h => by cases h⟩⟩
theorem fl_X9_183 : ab_Fl RX9 183 1 3 := ⟨(RX0, TX0, 5), rfl, by decide, in_X0, "BergPatrol$Berg", (ab_t3 (List.mem_of_getElem? (i := 181) rfl) rfl), Or.inl rfl⟩
theorem fl_X0_25 : ab_Fl RX0 25 1 4 := ⟨(RX0, TX0, 5), rfl, by decide, in_X0, "BergPatrol$Berg", (ab_t3 (List.mem_of_getElem? (i := 182) rfl) rfl), Or.inl rfl⟩
theorem fp_X0_25 : ab_Fp RX0 25 1 4 (.boolean) false := ⟨fl_X0_25, fun r hr => by cases hr; exact ⟨⟨tyX0, tyX0_ok⟩, nmX0, by decide +kernel, rfl, fun h => by cases h⟩⟩
theorem fl_X9_172 : ab_Fl RX9 172 1 4 := ⟨(RX0, TX0, 5), rfl, by decide, in_X0, "BergPatrol$Berg", (ab_t3 (List.mem_of_getElem? (i := 183) rfl) rfl), Or.inl rfl⟩
theorem fl_X10_3 : ab_Fl RX10 3 11 0 := ⟨(RX10, TX10, 38), rfl, by decide, in_X10, "BergPatrolModel", (ab_t4 (List.mem_of_getElem? (i := 229) rfl) rfl), Or.inl rfl⟩
theorem fp_X10_3 : ab_Fp RX10 3 11 0 (.int) false := ⟨fl_X10_3, fun r hr => by cases hr; exact ⟨⟨tyX10, tyX10_ok⟩, nmX10, by decide +kernel, rfl, fun h => by cases h⟩⟩
theorem fl_X10_13 : ab_Fl RX10 13 11 1 := ⟨(RX10, TX10, 38), rfl, by decide, in_X10, "BergPatrolModel", (ab_t4 (List.mem_of_getElem? (i := 230) rfl) rfl), Or.inl rfl⟩
theorem fp_X10_13 : ab_Fp RX10 13 11 1 (.array .boolean) true := ⟨fl_X10_13, fun r hr => by cases hr; exact ⟨⟨tyX10, tyX10_ok⟩, nmX10, by decide +kernel, rfl, fun _ => rfl⟩⟩
theorem fl_X10_17 : ab_Fl RX10 17 11 2 := ⟨(RX10, TX10, 38), rfl, by decide, in_X10, "BergPatrolModel", (ab_t4 (List.mem_of_getElem? (i := 231) rfl) rfl), Or.inl rfl⟩
theorem fp_X10_17 : ab_Fp RX10 17 11 2 (.array .int) true := ⟨fl_X10_17, fun r hr => by cases hr; exact ⟨⟨tyX10, tyX10_ok⟩, nmX10, by decide +kernel, rfl, fun _ => rfl⟩⟩
theorem fl_X10_21 : ab_Fl RX10 21 11 3 := ⟨(RX10, TX10, 38), rfl, by decide, in_X10, "BergPatrolModel", (ab_t4 (List.mem_of_getElem? (i := 232) rfl) rfl), Or.inl rfl⟩
theorem fp_X10_21 : ab_Fp RX10 21 11 3 (.array .int) true := ⟨fl_X10_21, fun r hr => by cases hr; exact ⟨⟨tyX10, tyX10_ok⟩, nmX10, by decide +kernel, rfl, fun _ => rfl⟩⟩
theorem fl_X10_24 : ab_Fl RX10 24 11 4 := ⟨(RX10, TX10, 38), rfl, by decide, in_X10, "BergPatrolModel", (ab_t4 (List.mem_of_getElem? (i := 233) rfl) rfl), Or.inl rfl⟩
theorem fp_X10_24 : ab_Fp RX10 24 11 4 (.array .int) true := ⟨fl_X10_24, fun r hr => by cases hr; exact ⟨⟨tyX10, tyX10_ok⟩, nmX10, by decide +kernel, rfl, fun _ => rfl⟩⟩
theorem fl_X10_140 : ab_Fl RX10 140 11 5 := ⟨(RX10, TX10, 38), rfl, by decide, in_X10, "BergPatrolModel", (ab_t4 (List.mem_of_getElem? (i := 234) rfl) rfl), Or.inl rfl⟩
theorem fp_X10_140 : ab_Fp RX10 140 11 5 (.int) false := ⟨fl_X10_140, fun r hr => by cases hr; exact ⟨⟨tyX10, tyX10_ok⟩, nmX10, by decide +kernel, rfl, fun h => by cases h⟩⟩
theorem fl_X10_27 : ab_Fl RX10 27 11 6 := ⟨(RX10, TX10, 38), rfl, by decide, in_X10, "BergPatrolModel", (ab_t4 (List.mem_of_getElem? (i := 235) rfl) rfl), Or.inl rfl⟩
theorem fp_X10_27 : ab_Fp RX10 27 11 6 (.array .int) true := ⟨fl_X10_27, fun r hr => by cases hr; exact ⟨⟨tyX10, tyX10_ok⟩, nmX10, by decide +kernel, rfl, fun _ => rfl⟩⟩
theorem fl_X10_30 : ab_Fl RX10 30 11 7 := ⟨(RX10, TX10, 38), rfl, by decide, in_X10, "BergPatrolModel", (ab_t4 (List.mem_of_getElem? (i := 236) rfl) rfl), Or.inl rfl⟩
theorem fp_X10_30 : ab_Fp RX10 30 11 7 (.array .int) true := ⟨fl_X10_30, fun r hr => by cases hr; exact ⟨⟨tyX10, tyX10_ok⟩, nmX10, by decide +kernel, rfl, fun _ => rfl⟩⟩
theorem fl_X10_33 : ab_Fl RX10 33 11 8 := ⟨(RX10, TX10, 38), rfl, by decide, in_X10, "BergPatrolModel", (ab_t4 (List.mem_of_getElem? (i := 237) rfl) rfl), Or.inl rfl⟩
theorem fp_X10_33 : ab_Fp RX10 33 11 8 (.array .int) true := ⟨fl_X10_33, fun r hr => by cases hr; exact ⟨⟨tyX10, tyX10_ok⟩, nmX10, by decide +kernel, rfl, fun _ => rfl⟩⟩
theorem fl_X10_36 : ab_Fl RX10 36 11 9 := ⟨(RX10, TX10, 38), rfl, by decide, in_X10, "BergPatrolModel", (ab_t4 (List.mem_of_getElem? (i := 238) rfl) rfl), Or.inl rfl⟩
theorem fp_X10_36 : ab_Fp RX10 36 11 9 (.array .int) true := ⟨fl_X10_36, fun r hr => by cases hr; exact ⟨⟨tyX10, tyX10_ok⟩, nmX10, by decide +kernel, rfl, fun _ => rfl⟩⟩
theorem fl_X10_39 : ab_Fl RX10 39 11 10 := ⟨(RX10, TX10, 38), rfl, by decide, in_X10, "BergPatrolModel", (ab_t4 (List.mem_of_getElem? (i := 239) rfl) rfl), Or.inl rfl⟩
theorem fp_X10_39 : ab_Fp RX10 39 11 10 (.array .boolean) true := ⟨fl_X10_39, fun r hr => by cases hr; exact ⟨⟨tyX10, tyX10_ok⟩, nmX10, by decide +kernel, rfl, fun _ => rfl⟩⟩
theorem fl_X10_101 : ab_Fl RX10 101 11 11 := ⟨(RX10, TX10, 38), rfl, by decide, in_X10, "BergPatrolModel", (ab_t5 (List.mem_of_getElem? (i := 0) rfl) rfl), Or.inl rfl⟩
theorem fp_X10_101 : ab_Fp RX10 101 11 11 (.int) false := ⟨fl_X10_101, fun r hr => by cases hr; exact ⟨⟨tyX10, tyX10_ok⟩, nmX10, by decide +kernel, rfl, fun h => by cases h⟩⟩
theorem fl_X10_119 : ab_Fl RX10 119 11 12 := ⟨(RX10, TX10, 38), rfl, by decide, in_X10, "BergPatrolModel", (ab_t5 (List.mem_of_getElem? (i := 1) rfl) rfl), Or.inl rfl⟩
theorem fp_X10_119 : ab_Fp RX10 119 11 12 (.int) false := ⟨fl_X10_119, fun r hr => by cases hr; exact ⟨⟨tyX10, tyX10_ok⟩, nmX10, by decide +kernel, rfl, fun h => by cases h⟩⟩
theorem fl_X10_42 : ab_Fl RX10 42 11 13 := ⟨(RX10, TX10, 38), rfl, by decide, in_X10, "BergPatrolModel", (ab_t5 (List.mem_of_getElem? (i := 2) rfl) rfl), Or.inl rfl⟩
theorem fp_X10_42 : ab_Fp RX10 42 11 13 (.array .int) true := ⟨fl_X10_42, fun r hr => by cases hr; exact ⟨⟨tyX10, tyX10_ok⟩, nmX10, by decide +kernel, rfl, fun _ => rfl⟩⟩
theorem fl_X10_45 : ab_Fl RX10 45 11 14 := ⟨(RX10, TX10, 38), rfl, by decide, in_X10, "BergPatrolModel", (ab_t5 (List.mem_of_getElem? (i := 3) rfl) rfl), Or.inl rfl⟩
theorem fp_X10_45 : ab_Fp RX10 45 11 14 (.array .int) true := ⟨fl_X10_45, fun r hr => by cases hr; exact ⟨⟨tyX10, tyX10_ok⟩, nmX10, by decide +kernel, rfl, fun _ => rfl⟩⟩
theorem fl_X10_48 : ab_Fl RX10 48 11 15 := ⟨(RX10, TX10, 38), rfl, by decide, in_X10, "BergPatrolModel", (ab_t5 (List.mem_of_getElem? (i := 4) rfl) rfl), Or.inl rfl⟩
theorem fp_X10_48 : ab_Fp RX10 48 11 15 (.array .int) true := ⟨fl_X10_48, fun r hr => by cases hr; exact ⟨⟨tyX10, tyX10_ok⟩, nmX10, by decide +kernel, rfl, fun _ => rfl⟩⟩
theorem fl_X10_51 : ab_Fl RX10 51 11 16 := ⟨(RX10, TX10, 38), rfl, by decide, in_X10, "BergPatrolModel", (ab_t5 (List.mem_of_getElem? (i := 5) rfl) rfl), Or.inl rfl⟩
theorem fp_X10_51 : ab_Fp RX10 51 11 16 (.array .int) true := ⟨fl_X10_51, fun r hr => by cases hr; exact ⟨⟨tyX10, tyX10_ok⟩, nmX10, by decide +kernel, rfl, fun _ => rfl⟩⟩
theorem fl_X10_54 : ab_Fl RX10 54 11 17 := ⟨(RX10, TX10, 38), rfl, by decide, in_X10, "BergPatrolModel", (ab_t5 (List.mem_of_getElem? (i := 6) rfl) rfl), Or.inl rfl⟩
theorem fp_X10_54 : ab_Fp RX10 54 11 17 (.array .int) true := ⟨fl_X10_54, fun r hr => by cases hr; exact ⟨⟨tyX10, tyX10_ok⟩, nmX10, by decide +kernel, rfl, fun _ => rfl⟩⟩
theorem fl_X10_104 : ab_Fl RX10 104 11 18 := ⟨(RX10, TX10, 38), rfl, by decide, in_X10, "BergPatrolModel", (ab_t5 (List.mem_of_getElem? (i := 7) rfl) rfl), Or.inl rfl⟩
theorem fp_X10_104 : ab_Fp RX10 104 11 18 (.int) false := ⟨fl_X10_104, fun r hr => by cases hr; exact ⟨⟨tyX10, tyX10_ok⟩, nmX10, by decide +kernel, rfl, fun h => by cases h⟩⟩
theorem fl_X10_57 : ab_Fl RX10 57 11 19 := ⟨(RX10, TX10, 38), rfl, by decide, in_X10, "BergPatrolModel", (ab_t5 (List.mem_of_getElem? (i := 8) rfl) rfl), Or.inl rfl⟩
theorem fp_X10_57 : ab_Fp RX10 57 11 19 (.array .int) true := ⟨fl_X10_57, fun r hr => by cases hr; exact ⟨⟨tyX10, tyX10_ok⟩, nmX10, by decide +kernel, rfl, fun _ => rfl⟩⟩
theorem fl_X10_60 : ab_Fl RX10 60 11 20 := ⟨(RX10, TX10, 38), rfl, by decide, in_X10, "BergPatrolModel", (ab_t5 (List.mem_of_getElem? (i := 9) rfl) rfl), Or.inl rfl⟩
theorem fp_X10_60 : ab_Fp RX10 60 11 20 (.array .int) true := ⟨fl_X10_60, fun r hr => by cases hr; exact ⟨⟨tyX10, tyX10_ok⟩, nmX10, by decide +kernel, rfl, fun _ => rfl⟩⟩
theorem fl_X10_63 : ab_Fl RX10 63 11 21 := ⟨(RX10, TX10, 38), rfl, by decide, in_X10, "BergPatrolModel", (ab_t5 (List.mem_of_getElem? (i := 10) rfl) rfl), Or.inl rfl⟩
theorem fp_X10_63 : ab_Fp RX10 63 11 21 (.array .int) true := ⟨fl_X10_63, fun r hr => by cases hr; exact ⟨⟨tyX10, tyX10_ok⟩, nmX10, by decide +kernel, rfl, fun _ => rfl⟩⟩
theorem fl_X10_66 : ab_Fl RX10 66 11 22 := ⟨(RX10, TX10, 38), rfl, by decide, in_X10, "BergPatrolModel", (ab_t5 (List.mem_of_getElem? (i := 11) rfl) rfl), Or.inl rfl⟩
theorem fp_X10_66 : ab_Fp RX10 66 11 22 (.array .int) true := ⟨fl_X10_66, fun r hr => by cases hr; exact ⟨⟨tyX10, tyX10_ok⟩, nmX10, by decide +kernel, rfl, fun _ => rfl⟩⟩
theorem fl_X10_69 : ab_Fl RX10 69 11 23 := ⟨(RX10, TX10, 38), rfl, by decide, in_X10, "BergPatrolModel", (ab_t5 (List.mem_of_getElem? (i := 12) rfl) rfl), Or.inl rfl⟩
theorem fp_X10_69 : ab_Fp RX10 69 11 23 (.array .int) true := ⟨fl_X10_69, fun r hr => by cases hr; exact ⟨⟨tyX10, tyX10_ok⟩, nmX10, by decide +kernel, rfl, fun _ => rfl⟩⟩
theorem fl_X10_159 : ab_Fl RX10 159 11 24 := ⟨(RX10, TX10, 38), rfl, by decide, in_X10, "BergPatrolModel", (ab_t5 (List.mem_of_getElem? (i := 13) rfl) rfl), Or.inl rfl⟩
theorem fp_X10_159 : ab_Fp RX10 159 11 24 (.int) false := ⟨fl_X10_159, fun r hr => by cases hr; exact ⟨⟨tyX10, tyX10_ok⟩, nmX10, by decide +kernel, rfl, fun h => by cases h⟩⟩
theorem fl_X10_72 : ab_Fl RX10 72 11 25 := ⟨(RX10, TX10, 38), rfl, by decide, in_X10, "BergPatrolModel", (ab_t5 (List.mem_of_getElem? (i := 14) rfl) rfl), Or.inl rfl⟩
theorem fp_X10_72 : ab_Fp RX10 72 11 25 (.array .byte) true := ⟨fl_X10_72, fun r hr => by cases hr; exact ⟨⟨tyX10, tyX10_ok⟩, nmX10, by decide +kernel, rfl, fun _ => rfl⟩⟩
theorem fl_X10_178 : ab_Fl RX10 178 11 26 := ⟨(RX10, TX10, 38), rfl, by decide, in_X10, "BergPatrolModel", (ab_t5 (List.mem_of_getElem? (i := 15) rfl) rfl), Or.inl rfl⟩
theorem fp_X10_178 : ab_Fp RX10 178 11 26 (.int) false := ⟨fl_X10_178, fun r hr => by cases hr; exact ⟨⟨tyX10, tyX10_ok⟩, nmX10, by decide +kernel, rfl, fun h => by cases h⟩⟩
theorem fl_X10_76 : ab_Fl RX10 76 11 27 := ⟨(RX10, TX10, 38), rfl, by decide, in_X10, "BergPatrolModel", (ab_t5 (List.mem_of_getElem? (i := 16) rfl) rfl), Or.inl rfl⟩
theorem fp_X10_76 : ab_Fp RX10 76 11 27 (.array .int) true := ⟨fl_X10_76, fun r hr => by cases hr; exact ⟨⟨tyX10, tyX10_ok⟩, nmX10, by decide +kernel, rfl, fun _ => rfl⟩⟩
theorem fl_X10_181 : ab_Fl RX10 181 11 28 := ⟨(RX10, TX10, 38), rfl, by decide, in_X10, "BergPatrolModel", (ab_t5 (List.mem_of_getElem? (i := 17) rfl) rfl), Or.inl rfl⟩
theorem fp_X10_181 : ab_Fp RX10 181 11 28 (.int) false := ⟨fl_X10_181, fun r hr => by cases hr; exact ⟨⟨tyX10, tyX10_ok⟩, nmX10, by decide +kernel, rfl, fun h => by cases h⟩⟩
theorem fl_X10_184 : ab_Fl RX10 184 11 29 := ⟨(RX10, TX10, 38), rfl, by decide, in_X10, "BergPatrolModel", (ab_t5 (List.mem_of_getElem? (i := 18) rfl) rfl), Or.inl rfl⟩
theorem fp_X10_184 : ab_Fp RX10 184 11 29 (.int) false := ⟨fl_X10_184, fun r hr => by cases hr; exact ⟨⟨tyX10, tyX10_ok⟩, nmX10, by decide +kernel, rfl, fun h => by cases h⟩⟩
theorem fl_X10_190 : ab_Fl RX10 190 11 30 := ⟨(RX10, TX10, 38), rfl, by decide, in_X10, "BergPatrolModel", (ab_t5 (List.mem_of_getElem? (i := 19) rfl) rfl), Or.inl rfl⟩
theorem fp_X10_190 : ab_Fp RX10 190 11 30 (.int) false := ⟨fl_X10_190, fun r hr => by cases hr; exact ⟨⟨tyX10, tyX10_ok⟩, nmX10, by decide +kernel, rfl, fun h => by cases h⟩⟩
theorem fl_X10_79 : ab_Fl RX10 79 11 31 := ⟨(RX10, TX10, 38), rfl, by decide, in_X10, "BergPatrolModel", (ab_t5 (List.mem_of_getElem? (i := 20) rfl) rfl), Or.inl rfl⟩
theorem fp_X10_79 : ab_Fp RX10 79 11 31 (.int) false := ⟨fl_X10_79, fun r hr => by cases hr; exact ⟨⟨tyX10, tyX10_ok⟩, nmX10, by decide +kernel, rfl, fun h => by cases h⟩⟩
theorem fl_X10_206 : ab_Fl RX10 206 11 32 := ⟨(RX10, TX10, 38), rfl, by decide, in_X10, "BergPatrolModel", (ab_t5 (List.mem_of_getElem? (i := 21) rfl) rfl), Or.inl rfl⟩
theorem fp_X10_206 : ab_Fp RX10 206 11 32 (.int) false := ⟨fl_X10_206, fun r hr => by cases hr; exact ⟨⟨tyX10, tyX10_ok⟩, nmX10, by decide +kernel, rfl, fun h => by cases h⟩⟩
theorem fl_X10_82 : ab_Fl RX10 82 11 33 := ⟨(RX10, TX10, 38), rfl, by decide, in_X10, "BergPatrolModel", (ab_t5 (List.mem_of_getElem? (i := 22) rfl) rfl), Or.inl rfl⟩
theorem fp_X10_82 : ab_Fp RX10 82 11 33 (.array .int) true := ⟨fl_X10_82, fun r hr => by cases hr; exact ⟨⟨tyX10, tyX10_ok⟩, nmX10, by decide +kernel, rfl, fun _ => rfl⟩⟩
theorem fl_X10_85 : ab_Fl RX10 85 11 34 := ⟨(RX10, TX10, 38), rfl, by decide, in_X10, "BergPatrolModel", (ab_t5 (List.mem_of_getElem? (i := 23) rfl) rfl), Or.inl rfl⟩
theorem fp_X10_85 : ab_Fp RX10 85 11 34 (.array .int) true := ⟨fl_X10_85, fun r hr => by cases hr; exact ⟨⟨tyX10, tyX10_ok⟩, nmX10, by decide +kernel, rfl, fun _ => rfl⟩⟩
theorem fl_X10_88 : ab_Fl RX10 88 11 35 := ⟨(RX10, TX10, 38), rfl, by decide, in_X10, "BergPatrolModel", (ab_t5 (List.mem_of_getElem? (i := 24) rfl) rfl), Or.inl rfl⟩
theorem fp_X10_88 : ab_Fp RX10 88 11 35 (.array .boolean) true := ⟨fl_X10_88, fun r hr => by cases hr; exact ⟨⟨tyX10, tyX10_ok⟩, nmX10, by decide +kernel, rfl, fun _ => rfl⟩⟩
theorem fl_X10_91 : ab_Fl RX10 91 11 36 := ⟨(RX10, TX10, 38), rfl, by decide, in_X10, "BergPatrolModel", (ab_t5 (List.mem_of_getElem? (i := 25) rfl) rfl), Or.inl rfl⟩
theorem fp_X10_91 : ab_Fp RX10 91 11 36 (.array .int) true := ⟨fl_X10_91, fun r hr => by cases hr; exact ⟨⟨tyX10, tyX10_ok⟩, nmX10, by decide +kernel, rfl, fun _ => rfl⟩⟩
theorem fl_X10_94 : ab_Fl RX10 94 11 37 := ⟨(RX10, TX10, 38), rfl, by decide, in_X10, "BergPatrolModel", (ab_t5 (List.mem_of_getElem? (i := 26) rfl) rfl), Or.inl rfl⟩
theorem fp_X10_94 : ab_Fp RX10 94 11 37 (.array .int) true := ⟨fl_X10_94, fun r hr => by cases hr; exact ⟨⟨tyX10, tyX10_ok⟩, nmX10, by decide +kernel, rfl, fun _ => rfl⟩⟩
theorem cl_L_63 : ab_Cl RL 63 yX9_init cX9_init 1 none 0 := ⟨(ab_t1 (List.mem_of_getElem? (i := 36) rfl) rfl), (ab_t1 (List.mem_of_getElem? (i := 34) rfl) rfl), (ab_t1 (List.mem_of_getElem? (i := 1) rfl) rfl), ⟨by decide +kernel, by decide +kernel⟩, by decide +kernel⟩
theorem cl_X9_11 : ab_Cl RX9 11 yX5_init cX5_init 1 none 0 := ⟨(ab_t1 (List.mem_of_getElem? (i := 44) rfl) rfl), (ab_t1 (List.mem_of_getElem? (i := 42) rfl) rfl), (ab_t1 (List.mem_of_getElem? (i := 2) rfl) rfl), ⟨by decide +kernel, by decide +kernel⟩, by decide +kernel⟩
theorem cl_X5_25 : ab_Cl RX5 25 yJ7_fill_53178 cJ7_fill_53178 4 none 2 := ⟨(ab_t1 (List.mem_of_getElem? (i := 48) rfl) rfl), (ab_t1 (List.mem_of_getElem? (i := 46) rfl) rfl), (ab_t1 (List.mem_of_getElem? (i := 3) rfl) rfl), ⟨by decide +kernel, by decide +kernel⟩, by decide +kernel⟩
theorem cl_X9_18 : ab_Cl RX9 18 yJx4a65c_init_da8c8 cJx4a65c_init_da8c8 1 none 0 := ⟨(ab_t1 (List.mem_of_getElem? (i := 76) rfl) rfl), (ab_t1 (List.mem_of_getElem? (i := 74) rfl) rfl), (ab_t1 (List.mem_of_getElem? (i := 6) rfl) rfl), ⟨by decide +kernel, by decide +kernel⟩, by decide +kernel⟩
theorem cl_Jx4a65c_1 : ab_Cl RJx4a65c 1 yJxc12de_init_da8c8 cJxc12de_init_da8c8 1 none 0 := ⟨(ab_t1 (List.mem_of_getElem? (i := 79) rfl) rfl), (ab_t1 (List.mem_of_getElem? (i := 77) rfl) rfl), (ab_t1 (List.mem_of_getElem? (i := 5) rfl) rfl), ⟨by decide +kernel, by decide +kernel⟩, by decide +kernel⟩
theorem cl_Jxc12de_1 : ab_Cl RJxc12de 1 yJxa1e45_init_da8c8 cJxa1e45_init_da8c8 1 none 0 := ⟨(ab_t1 (List.mem_of_getElem? (i := 82) rfl) rfl), (ab_t1 (List.mem_of_getElem? (i := 80) rfl) rfl), (ab_t1 (List.mem_of_getElem? (i := 4) rfl) rfl), ⟨by decide +kernel, by decide +kernel⟩, by decide +kernel⟩
theorem cl_X9_28 : ab_Cl RX9 28 yX7_init cX7_init 1 none 0 := ⟨(ab_t1 (List.mem_of_getElem? (i := 102) rfl) rfl), (ab_t1 (List.mem_of_getElem? (i := 100) rfl) rfl), (ab_t1 (List.mem_of_getElem? (i := 7) rfl) rfl), ⟨by decide +kernel, by decide +kernel⟩, by decide +kernel⟩
theorem cl_X7_11 : ab_Cl RX7 11 yX6_init cX6_init 1 none 0 := ⟨(ab_t1 (List.mem_of_getElem? (i := 108) rfl) rfl), (ab_t1 (List.mem_of_getElem? (i := 106) rfl) rfl), (ab_t1 (List.mem_of_getElem? (i := 8) rfl) rfl), ⟨by decide +kernel, by decide +kernel⟩, by decide +kernel⟩
theorem cl_X7_20 : ab_Cl RX7 20 yX4_init cX4_init 1 none 0 := ⟨(ab_t1 (List.mem_of_getElem? (i := 125) rfl) rfl), (ab_t1 (List.mem_of_getElem? (i := 123) rfl) rfl), (ab_t1 (List.mem_of_getElem? (i := 9) rfl) rfl), ⟨by decide +kernel, by decide +kernel⟩, by decide +kernel⟩
theorem cl_X9_40 : ab_Cl RX9 40 yX3_init cX3_init 1 none 0 := ⟨(ab_t1 (List.mem_of_getElem? (i := 161) rfl) rfl), (ab_t1 (List.mem_of_getElem? (i := 159) rfl) rfl), (ab_t1 (List.mem_of_getElem? (i := 10) rfl) rfl), ⟨by decide +kernel, by decide +kernel⟩, by decide +kernel⟩
theorem cl_X3_11 : ab_Cl RX3 11 yX4_init cX4_init 1 none 0 := ⟨(ab_t1 (List.mem_of_getElem? (i := 125) rfl) rfl), (ab_t1 (List.mem_of_getElem? (i := 164) rfl) rfl), (ab_t1 (List.mem_of_getElem? (i := 9) rfl) rfl), ⟨by decide +kernel, by decide +kernel⟩, by decide +kernel⟩
theorem cl_X9_47 : ab_Cl RX9 47 yX1_init cX1_init 1 none 0 := ⟨(ab_t1 (List.mem_of_getElem? (i := 180) rfl) rfl), (ab_t1 (List.mem_of_getElem? (i := 178) rfl) rfl), (ab_t1 (List.mem_of_getElem? (i := 11) rfl) rfl), ⟨by decide +kernel, by decide +kernel⟩, by decide +kernel⟩
theorem cl_X9_54 : ab_Cl RX9 54 yX2_init cX2_init 1 none 0 := ⟨(ab_t1 (List.mem_of_getElem? (i := 199) rfl) rfl), (ab_t1 (List.mem_of_getElem? (i := 197) rfl) rfl), (ab_t1 (List.mem_of_getElem? (i := 12) rfl) rfl), ⟨by decide +kernel, by decide +kernel⟩, by decide +kernel⟩
theorem cl_L_67 : ab_Cl RL 67 yX9_feed cX9_feed 6 (some .int) 5 := ⟨(ab_t2 (List.mem_of_getElem? (i := 11) rfl) rfl), (ab_t2 (List.mem_of_getElem? (i := 8) rfl) rfl), (ab_t1 (List.mem_of_getElem? (i := 1) rfl) rfl), ⟨by decide +kernel, by decide +kernel⟩, by decide +kernel⟩
theorem cl_X9_81 : ab_Cl RX9 81 yX6_putFour cX6_putFour 2 none 1 := ⟨(ab_t2 (List.mem_of_getElem? (i := 15) rfl) rfl), (ab_t2 (List.mem_of_getElem? (i := 12) rfl) rfl), (ab_t1 (List.mem_of_getElem? (i := 8) rfl) rfl), ⟨by decide +kernel, by decide +kernel⟩, by decide +kernel⟩
theorem cl_X6_19 : ab_Cl RX6 19 yX6_put cX6_put 2 none 1 := ⟨(ab_t2 (List.mem_of_getElem? (i := 19) rfl) rfl), (ab_t2 (List.mem_of_getElem? (i := 16) rfl) rfl), (ab_t1 (List.mem_of_getElem? (i := 8) rfl) rfl), ⟨by decide +kernel, by decide +kernel⟩, by decide +kernel⟩
theorem cl_L_72 : ab_Cl RL 72 yX9_end cX9_end 2 (some .boolean) 1 := ⟨(ab_t2 (List.mem_of_getElem? (i := 23) rfl) rfl), (ab_t2 (List.mem_of_getElem? (i := 20) rfl) rfl), (ab_t1 (List.mem_of_getElem? (i := 1) rfl) rfl), ⟨by decide +kernel, by decide +kernel⟩, by decide +kernel⟩
theorem cl_L_106 : ab_Cl RL 106 yX9_limit cX9_limit 1 (some .int) 0 := ⟨(ab_t2 (List.mem_of_getElem? (i := 27) rfl) rfl), (ab_t2 (List.mem_of_getElem? (i := 24) rfl) rfl), (ab_t1 (List.mem_of_getElem? (i := 1) rfl) rfl), ⟨by decide +kernel, by decide +kernel⟩, by decide +kernel⟩
theorem cl_X9_191 : ab_Cl RX9 191 yX9_gatherParts cX9_gatherParts 4 none 0 := ⟨(ab_t2 (List.mem_of_getElem? (i := 31) rfl) rfl), (ab_t2 (List.mem_of_getElem? (i := 28) rfl) rfl), (ab_t1 (List.mem_of_getElem? (i := 1) rfl) rfl), ⟨by decide +kernel, by decide +kernel⟩, by decide +kernel⟩
theorem cl_X9_284 : ab_Cl RX9 284 yJ7_fill_53178 cJ7_fill_53178 4 none 2 := ⟨(ab_t1 (List.mem_of_getElem? (i := 48) rfl) rfl), (ab_t2 (List.mem_of_getElem? (i := 32) rfl) rfl), (ab_t1 (List.mem_of_getElem? (i := 3) rfl) rfl), ⟨by decide +kernel, by decide +kernel⟩, by decide +kernel⟩
theorem cl_X9_126 : ab_Cl RX9 126 yJx4a65c_size_8abf5 cJx4a65c_size_8abf5 1 (some .int) 0 := ⟨(ab_t2 (List.mem_of_getElem? (i := 36) rfl) rfl), (ab_t2 (List.mem_of_getElem? (i := 33) rfl) rfl), (ab_t1 (List.mem_of_getElem? (i := 6) rfl) rfl), ⟨by decide +kernel, by decide +kernel⟩, by decide +kernel⟩
theorem cl_X9_142 : ab_Cl RX9 142 yJx4a65c_get_915e3 cJx4a65c_get_915e3 2 (some (.object "java/lang/Object")) 1 := ⟨(ab_t2 (List.mem_of_getElem? (i := 40) rfl) rfl), (ab_t2 (List.mem_of_getElem? (i := 37) rfl) rfl), (ab_t1 (List.mem_of_getElem? (i := 6) rfl) rfl), ⟨by decide +kernel, by decide +kernel⟩, by decide +kernel⟩
theorem cl_Jx4a65c_118 : ab_Cl RJx4a65c 118 yJ15_checkIndex_7cf53 cJ15_checkIndex_7cf53 2 (some .int) 2 := ⟨(ab_t2 (List.mem_of_getElem? (i := 43) rfl) rfl), (ab_t2 (List.mem_of_getElem? (i := 41) rfl) rfl), (ab_t1 (List.mem_of_getElem? (i := 19) rfl) rfl), ⟨by decide +kernel, by decide +kernel⟩, by decide +kernel⟩
theorem cl_J15_105 : ab_Cl RJ15 105 yJ3_checkIndex_8e157 cJ3_checkIndex_8e157 3 (some .int) 3 := ⟨(ab_t2 (List.mem_of_getElem? (i := 46) rfl) rfl), (ab_t2 (List.mem_of_getElem? (i := 44) rfl) rfl), (ab_t1 (List.mem_of_getElem? (i := 20) rfl) rfl), ⟨by decide +kernel, by decide +kernel⟩, by decide +kernel⟩
theorem cl_Jx4a65c_123 : ab_Cl RJx4a65c 123 yJx4a65c_elementData_915e3 cJx4a65c_elementData_915e3 2 (some (.object "java/lang/Object")) 1 := ⟨(ab_t2 (List.mem_of_getElem? (i := 50) rfl) rfl), (ab_t2 (List.mem_of_getElem? (i := 47) rfl) rfl), (ab_t1 (List.mem_of_getElem? (i := 6) rfl) rfl), ⟨by decide +kernel, by decide +kernel⟩, by decide +kernel⟩
theorem cl_X9_194 : ab_Cl RX9 194 yX3_wrap cX3_wrap 3 none 1 := ⟨(ab_t2 (List.mem_of_getElem? (i := 55) rfl) rfl), (ab_t2 (List.mem_of_getElem? (i := 52) rfl) rfl), (ab_t1 (List.mem_of_getElem? (i := 10) rfl) rfl), ⟨by decide +kernel, by decide +kernel⟩, by decide +kernel⟩
theorem cl_X3_25 : ab_Cl RX3 25 yJ7_fill_53178 cJ7_fill_53178 4 none 2 := ⟨(ab_t1 (List.mem_of_getElem? (i := 48) rfl) rfl), (ab_t2 (List.mem_of_getElem? (i := 56) rfl) rfl), (ab_t1 (List.mem_of_getElem? (i := 3) rfl) rfl), ⟨by decide +kernel, by decide +kernel⟩, by decide +kernel⟩
theorem cl_X3_31 : ab_Cl RX3 31 yX3_stretch cX3_stretch 3 none 2 := ⟨(ab_t2 (List.mem_of_getElem? (i := 60) rfl) rfl), (ab_t2 (List.mem_of_getElem? (i := 57) rfl) rfl), (ab_t1 (List.mem_of_getElem? (i := 10) rfl) rfl), ⟨by decide +kernel, by decide +kernel⟩, by decide +kernel⟩
theorem cl_X3_46 : ab_Cl RX3 46 yJ9_min_7cf53 cJ9_min_7cf53 2 (some .int) 2 := ⟨(ab_t2 (List.mem_of_getElem? (i := 63) rfl) rfl), (ab_t2 (List.mem_of_getElem? (i := 61) rfl) rfl), (ab_t1 (List.mem_of_getElem? (i := 25) rfl) rfl), ⟨by decide +kernel, by decide +kernel⟩, by decide +kernel⟩
theorem cl_X3_52 : ab_Cl RX3 52 yJ9_max_7cf53 cJ9_max_7cf53 2 (some .int) 2 := ⟨(ab_t2 (List.mem_of_getElem? (i := 66) rfl) rfl), (ab_t2 (List.mem_of_getElem? (i := 64) rfl) rfl), (ab_t1 (List.mem_of_getElem? (i := 25) rfl) rfl), ⟨by decide +kernel, by decide +kernel⟩, by decide +kernel⟩
theorem cl_X3_39 : ab_Cl RX3 39 yX3_goBelow cX3_goBelow 2 none 0 := ⟨(ab_t2 (List.mem_of_getElem? (i := 70) rfl) rfl), (ab_t2 (List.mem_of_getElem? (i := 67) rfl) rfl), (ab_t1 (List.mem_of_getElem? (i := 10) rfl) rfl), ⟨by decide +kernel, by decide +kernel⟩, by decide +kernel⟩
theorem cl_X3_55 : ab_Cl RX3 55 yX4_dropForLeftTurn cX4_dropForLeftTurn 4 none 3 := ⟨(ab_t2 (List.mem_of_getElem? (i := 74) rfl) rfl), (ab_t2 (List.mem_of_getElem? (i := 71) rfl) rfl), (ab_t1 (List.mem_of_getElem? (i := 9) rfl) rfl), ⟨by decide +kernel, by decide +kernel⟩, by decide +kernel⟩
theorem cl_X4_22 : ab_Cl RX4 22 yX4_turnsLeft cX4_turnsLeft 5 (some .boolean) 4 := ⟨(ab_t2 (List.mem_of_getElem? (i := 78) rfl) rfl), (ab_t2 (List.mem_of_getElem? (i := 75) rfl) rfl), (ab_t1 (List.mem_of_getElem? (i := 9) rfl) rfl), ⟨by decide +kernel, by decide +kernel⟩, by decide +kernel⟩
theorem cl_X3_59 : ab_Cl RX3 59 yX4_add cX4_add 3 none 2 := ⟨(ab_t2 (List.mem_of_getElem? (i := 82) rfl) rfl), (ab_t2 (List.mem_of_getElem? (i := 79) rfl) rfl), (ab_t1 (List.mem_of_getElem? (i := 9) rfl) rfl), ⟨by decide +kernel, by decide +kernel⟩, by decide +kernel⟩
theorem cl_X3_42 : ab_Cl RX3 42 yX3_goAbove cX3_goAbove 3 none 1 := ⟨(ab_t2 (List.mem_of_getElem? (i := 86) rfl) rfl), (ab_t2 (List.mem_of_getElem? (i := 83) rfl) rfl), (ab_t1 (List.mem_of_getElem? (i := 10) rfl) rfl), ⟨by decide +kernel, by decide +kernel⟩, by decide +kernel⟩
theorem cl_L_110 : ab_Cl RL 110 yX9_corner cX9_corner 3 (some .int) 2 := ⟨(ab_t2 (List.mem_of_getElem? (i := 90) rfl) rfl), (ab_t2 (List.mem_of_getElem? (i := 87) rfl) rfl), (ab_t1 (List.mem_of_getElem? (i := 1) rfl) rfl), ⟨by decide +kernel, by decide +kernel⟩, by decide +kernel⟩
theorem cl_L_115 : ab_Cl RL 115 yX9_warn cX9_warn 2 (some .int) 0 := ⟨(ab_t2 (List.mem_of_getElem? (i := 94) rfl) rfl), (ab_t2 (List.mem_of_getElem? (i := 91) rfl) rfl), (ab_t1 (List.mem_of_getElem? (i := 1) rfl) rfl), ⟨by decide +kernel, by decide +kernel⟩, by decide +kernel⟩
theorem cl_X9_211 : ab_Cl RX9 211 yX9_addWarning cX9_addWarning 2 (some .int) 1 := ⟨(ab_t2 (List.mem_of_getElem? (i := 98) rfl) rfl), (ab_t2 (List.mem_of_getElem? (i := 95) rfl) rfl), (ab_t1 (List.mem_of_getElem? (i := 1) rfl) rfl), ⟨by decide +kernel, by decide +kernel⟩, by decide +kernel⟩
theorem cl_X9_290 : ab_Cl RX9 290 yX8_init cX8_init 5 none 2 := ⟨(ab_t2 (List.mem_of_getElem? (i := 103) rfl) rfl), (ab_t2 (List.mem_of_getElem? (i := 101) rfl) rfl), (ab_t1 (List.mem_of_getElem? (i := 28) rfl) rfl), ⟨by decide +kernel, by decide +kernel⟩, by decide +kernel⟩
theorem cl_X8_15 : ab_Cl RX8 15 yJ9_max_7cf53 cJ9_max_7cf53 2 (some .int) 2 := ⟨(ab_t2 (List.mem_of_getElem? (i := 66) rfl) rfl), (ab_t2 (List.mem_of_getElem? (i := 105) rfl) rfl), (ab_t1 (List.mem_of_getElem? (i := 25) rfl) rfl), ⟨by decide +kernel, by decide +kernel⟩, by decide +kernel⟩
theorem cl_X8_21 : ab_Cl RX8 21 yJ9_min_7cf53 cJ9_min_7cf53 2 (some .int) 2 := ⟨(ab_t2 (List.mem_of_getElem? (i := 63) rfl) rfl), (ab_t2 (List.mem_of_getElem? (i := 106) rfl) rfl), (ab_t1 (List.mem_of_getElem? (i := 25) rfl) rfl), ⟨by decide +kernel, by decide +kernel⟩, by decide +kernel⟩
theorem cl_X8_28 : ab_Cl RX8 28 yJ7_copyOf_59c91 cJ7_copyOf_59c91 3 (some (.array .int)) 2 := ⟨(ab_t2 (List.mem_of_getElem? (i := 109) rfl) rfl), (ab_t2 (List.mem_of_getElem? (i := 107) rfl) rfl), (ab_t1 (List.mem_of_getElem? (i := 3) rfl) rfl), ⟨by decide +kernel, by decide +kernel⟩, by decide +kernel⟩
theorem cl_J7_304 : ab_Cl RJ7 304 yJ9_min_7cf53 cJ9_min_7cf53 2 (some .int) 2 := ⟨(ab_t2 (List.mem_of_getElem? (i := 63) rfl) rfl), (ab_t2 (List.mem_of_getElem? (i := 117) rfl) rfl), (ab_t1 (List.mem_of_getElem? (i := 25) rfl) rfl), ⟨by decide +kernel, by decide +kernel⟩, by decide +kernel⟩
theorem cl_X8_54 : ab_Cl RX8 54 yX8_isWithin cX8_isWithin 6 (some .boolean) 2 := ⟨(ab_t2 (List.mem_of_getElem? (i := 124) rfl) rfl), (ab_t2 (List.mem_of_getElem? (i := 121) rfl) rfl), (ab_t1 (List.mem_of_getElem? (i := 28) rfl) rfl), ⟨by decide +kernel, by decide +kernel⟩, by decide +kernel⟩
theorem cl_X8_58 : ab_Cl RX8 58 yX8_passes cX8_passes 11 (some .boolean) 4 := ⟨(ab_t2 (List.mem_of_getElem? (i := 128) rfl) rfl), (ab_t2 (List.mem_of_getElem? (i := 125) rfl) rfl), (ab_t1 (List.mem_of_getElem? (i := 28) rfl) rfl), ⟨by decide +kernel, by decide +kernel⟩, by decide +kernel⟩
theorem cl_X9_138 : ab_Cl RX9 138 yJx4a65c_add_9ea2d cJx4a65c_add_9ea2d 2 (some .boolean) 1 := ⟨(ab_t2 (List.mem_of_getElem? (i := 156) rfl) rfl), (ab_t2 (List.mem_of_getElem? (i := 153) rfl) rfl), (ab_t1 (List.mem_of_getElem? (i := 6) rfl) rfl), ⟨by decide +kernel, by decide +kernel⟩, by decide +kernel⟩
theorem cl_Jx4a65c_131 : ab_Cl RJx4a65c 131 yJx4a65c_add_72be8 cJx4a65c_add_72be8 4 none 3 := ⟨(ab_t2 (List.mem_of_getElem? (i := 160) rfl) rfl), (ab_t2 (List.mem_of_getElem? (i := 157) rfl) rfl), (ab_t1 (List.mem_of_getElem? (i := 6) rfl) rfl), ⟨by decide +kernel, by decide +kernel⟩, by decide +kernel⟩
theorem cl_Jx4a65c_129 : ab_Cl RJx4a65c 129 yJx4a65c_grow_d5877 cJx4a65c_grow_d5877 1 (some (.array (.object "java/lang/Object"))) 0 := ⟨(ab_t2 (List.mem_of_getElem? (i := 164) rfl) rfl), (ab_t2 (List.mem_of_getElem? (i := 161) rfl) rfl), (ab_t1 (List.mem_of_getElem? (i := 6) rfl) rfl), ⟨by decide +kernel, by decide +kernel⟩, by decide +kernel⟩
theorem cl_Jx4a65c_69 : ab_Cl RJx4a65c 69 yJx4a65c_grow_92f84 cJx4a65c_grow_92f84 4 (some (.array (.object "java/lang/Object"))) 1 := ⟨(ab_t2 (List.mem_of_getElem? (i := 168) rfl) rfl), (ab_t2 (List.mem_of_getElem? (i := 165) rfl) rfl), (ab_t1 (List.mem_of_getElem? (i := 6) rfl) rfl), ⟨by decide +kernel, by decide +kernel⟩, by decide +kernel⟩
theorem cl_Jx4a65c_73 : ab_Cl RJx4a65c 73 yJ8_newLength_cabcc cJ8_newLength_cabcc 4 (some .int) 3 := ⟨(ab_t2 (List.mem_of_getElem? (i := 171) rfl) rfl), (ab_t2 (List.mem_of_getElem? (i := 169) rfl) rfl), (ab_t1 (List.mem_of_getElem? (i := 24) rfl) rfl), ⟨by decide +kernel, by decide +kernel⟩, by decide +kernel⟩
theorem cl_J8_194 : ab_Cl RJ8 194 yJ9_max_7cf53 cJ9_max_7cf53 2 (some .int) 2 := ⟨(ab_t2 (List.mem_of_getElem? (i := 66) rfl) rfl), (ab_t2 (List.mem_of_getElem? (i := 172) rfl) rfl), (ab_t1 (List.mem_of_getElem? (i := 25) rfl) rfl), ⟨by decide +kernel, by decide +kernel⟩, by decide +kernel⟩
theorem cl_J8_201 : ab_Cl RJ8 201 yJ8_hugeLength_7cf53 cJ8_hugeLength_7cf53 3 (some .int) 2 := ⟨(ab_t2 (List.mem_of_getElem? (i := 176) rfl) rfl), (ab_t2 (List.mem_of_getElem? (i := 174) rfl) rfl), (ab_t1 (List.mem_of_getElem? (i := 24) rfl) rfl), ⟨by decide +kernel, by decide +kernel⟩, by decide +kernel⟩
theorem cl_Jx4a65c_66 : ab_Cl RJx4a65c 66 yJ7_copyOf_1904c cJ7_copyOf_1904c 2 (some (.array (.object "java/lang/Object"))) 2 := ⟨(ab_t2 (List.mem_of_getElem? (i := 179) rfl) rfl), (ab_t2 (List.mem_of_getElem? (i := 177) rfl) rfl), (ab_t1 (List.mem_of_getElem? (i := 3) rfl) rfl), ⟨by decide +kernel, by decide +kernel⟩, by decide +kernel⟩
theorem cl_J7_300 : ab_Cl RJ7 300 yJ7_copyOf_6403c cJ7_copyOf_6403c 4 (some (.array (.object "java/lang/Object"))) 3 := ⟨(ab_t2 (List.mem_of_getElem? (i := 203) rfl) rfl), (ab_t2 (List.mem_of_getElem? (i := 201) rfl) rfl), (ab_t1 (List.mem_of_getElem? (i := 3) rfl) rfl), ⟨by decide +kernel, by decide +kernel⟩, by decide +kernel⟩
theorem cl_Jx4a65c_79 : ab_Cl RJx4a65c 79 yJ9_max_7cf53 cJ9_max_7cf53 2 (some .int) 2 := ⟨(ab_t2 (List.mem_of_getElem? (i := 66) rfl) rfl), (ab_t2 (List.mem_of_getElem? (i := 207) rfl) rfl), (ab_t1 (List.mem_of_getElem? (i := 25) rfl) rfl), ⟨by decide +kernel, by decide +kernel⟩, by decide +kernel⟩
theorem cl_L_123 : ab_Cl RL 123 yX9_fault cX9_fault 1 (some .int) 0 := ⟨(ab_t2 (List.mem_of_getElem? (i := 212) rfl) rfl), (ab_t2 (List.mem_of_getElem? (i := 209) rfl) rfl), (ab_t1 (List.mem_of_getElem? (i := 1) rfl) rfl), ⟨by decide +kernel, by decide +kernel⟩, by decide +kernel⟩
theorem cl_L_136 : ab_Cl RL 136 yX9_taped cX9_taped 2 (some .int) 1 := ⟨(ab_t2 (List.mem_of_getElem? (i := 216) rfl) rfl), (ab_t2 (List.mem_of_getElem? (i := 213) rfl) rfl), (ab_t1 (List.mem_of_getElem? (i := 1) rfl) rfl), ⟨by decide +kernel, by decide +kernel⟩, by decide +kernel⟩
theorem cl_L_144 : ab_Cl RL 144 yX9_flight cX9_flight 1 (some .int) 0 := ⟨(ab_t2 (List.mem_of_getElem? (i := 220) rfl) rfl), (ab_t2 (List.mem_of_getElem? (i := 217) rfl) rfl), (ab_t1 (List.mem_of_getElem? (i := 1) rfl) rfl), ⟨by decide +kernel, by decide +kernel⟩, by decide +kernel⟩
theorem cl_X9_266 : ab_Cl RX9 266 yX2_most cX2_most 4 (some .int) 1 := ⟨(ab_t2 (List.mem_of_getElem? (i := 224) rfl) rfl), (ab_t2 (List.mem_of_getElem? (i := 221) rfl) rfl), (ab_t1 (List.mem_of_getElem? (i := 12) rfl) rfl), ⟨by decide +kernel, by decide +kernel⟩, by decide +kernel⟩
theorem cl_X2_18 : ab_Cl RX2 18 yJ7_fill_53178 cJ7_fill_53178 4 none 2 := ⟨(ab_t1 (List.mem_of_getElem? (i := 48) rfl) rfl), (ab_t2 (List.mem_of_getElem? (i := 225) rfl) rfl), (ab_t1 (List.mem_of_getElem? (i := 3) rfl) rfl), ⟨by decide +kernel, by decide +kernel⟩, by decide +kernel⟩
theorem cl_X2_30 : ab_Cl RX2 30 yX2_bestBefore cX2_bestBefore 3 (some .int) 1 := ⟨(ab_t2 (List.mem_of_getElem? (i := 230) rfl) rfl), (ab_t2 (List.mem_of_getElem? (i := 227) rfl) rfl), (ab_t1 (List.mem_of_getElem? (i := 12) rfl) rfl), ⟨by decide +kernel, by decide +kernel⟩, by decide +kernel⟩
theorem cl_X2_34 : ab_Cl RX2 34 yJ9_max_7cf53 cJ9_max_7cf53 2 (some .int) 2 := ⟨(ab_t2 (List.mem_of_getElem? (i := 66) rfl) rfl), (ab_t2 (List.mem_of_getElem? (i := 231) rfl) rfl), (ab_t1 (List.mem_of_getElem? (i := 25) rfl) rfl), ⟨by decide +kernel, by decide +kernel⟩, by decide +kernel⟩
theorem cl_L_148 : ab_Cl RL 148 yX9_count cX9_count 2 (some .int) 1 := ⟨(ab_t2 (List.mem_of_getElem? (i := 235) rfl) rfl), (ab_t2 (List.mem_of_getElem? (i := 232) rfl) rfl), (ab_t1 (List.mem_of_getElem? (i := 1) rfl) rfl), ⟨by decide +kernel, by decide +kernel⟩, by decide +kernel⟩
theorem cl_X9_269 : ab_Cl RX9 269 yX9_bergsLeft cX9_bergsLeft 3 (some .int) 0 := ⟨(ab_t2 (List.mem_of_getElem? (i := 239) rfl) rfl), (ab_t2 (List.mem_of_getElem? (i := 236) rfl) rfl), (ab_t1 (List.mem_of_getElem? (i := 1) rfl) rfl), ⟨by decide +kernel, by decide +kernel⟩, by decide +kernel⟩
theorem cl_X9_272 : ab_Cl RX9 272 yX9_warningsHolding cX9_warningsHolding 3 (some .int) 0 := ⟨(ab_t3 (List.mem_of_getElem? (i := 3) rfl) rfl), (ab_t3 (List.mem_of_getElem? (i := 0) rfl) rfl), (ab_t1 (List.mem_of_getElem? (i := 1) rfl) rfl), ⟨by decide +kernel, by decide +kernel⟩, by decide +kernel⟩
theorem cl_X9_234 : ab_Cl RX9 234 yX8_holdsAt cX8_holdsAt 2 (some .boolean) 1 := ⟨(ab_t3 (List.mem_of_getElem? (i := 7) rfl) rfl), (ab_t3 (List.mem_of_getElem? (i := 4) rfl) rfl), (ab_t1 (List.mem_of_getElem? (i := 28) rfl) rfl), ⟨by decide +kernel, by decide +kernel⟩, by decide +kernel⟩
theorem cl_X9_176 : ab_Cl RX9 176 yX9_squaresAboveZero cX9_squaresAboveZero 3 (some .int) 1 := ⟨(ab_t3 (List.mem_of_getElem? (i := 10) rfl) rfl), (ab_t3 (List.mem_of_getElem? (i := 8) rfl) rfl), (ab_t1 (List.mem_of_getElem? (i := 1) rfl) rfl), ⟨by decide +kernel, by decide +kernel⟩, by decide +kernel⟩
theorem cl_L_7 : ab_Cl RL 7 yX9_water cX9_water 5 none 4 := ⟨(ab_t3 (List.mem_of_getElem? (i := 19) rfl) rfl), (ab_t3 (List.mem_of_getElem? (i := 16) rfl) rfl), (ab_t1 (List.mem_of_getElem? (i := 1) rfl) rfl), ⟨by decide +kernel, by decide +kernel⟩, by decide +kernel⟩
theorem cl_X9_85 : ab_Cl RX9 85 yX9_checkSquare cX9_checkSquare 1 none 1 := ⟨(ab_t3 (List.mem_of_getElem? (i := 22) rfl) rfl), (ab_t3 (List.mem_of_getElem? (i := 20) rfl) rfl), (ab_t1 (List.mem_of_getElem? (i := 1) rfl) rfl), ⟨by decide +kernel, by decide +kernel⟩, by decide +kernel⟩
theorem cl_X9_88 : ab_Cl RX9 88 yX9_isCurrent cX9_isCurrent 1 (some .boolean) 1 := ⟨(ab_t3 (List.mem_of_getElem? (i := 95) rfl) rfl), (ab_t3 (List.mem_of_getElem? (i := 93) rfl) rfl), (ab_t1 (List.mem_of_getElem? (i := 1) rfl) rfl), ⟨by decide +kernel, by decide +kernel⟩, by decide +kernel⟩
theorem cl_L_17 : ab_Cl RL 17 yX9_land cX9_land 3 none 2 := ⟨(ab_t3 (List.mem_of_getElem? (i := 119) rfl) rfl), (ab_t3 (List.mem_of_getElem? (i := 116) rfl) rfl), (ab_t1 (List.mem_of_getElem? (i := 1) rfl) rfl), ⟨by decide +kernel, by decide +kernel⟩, by decide +kernel⟩
theorem cl_X9_108 : ab_Cl RX9 108 yX9_someBergMayBe cX9_someBergMayBe 3 (some .boolean) 1 := ⟨(ab_t3 (List.mem_of_getElem? (i := 123) rfl) rfl), (ab_t3 (List.mem_of_getElem? (i := 120) rfl) rfl), (ab_t1 (List.mem_of_getElem? (i := 1) rfl) rfl), ⟨by decide +kernel, by decide +kernel⟩, by decide +kernel⟩
theorem cl_L_23 : ab_Cl RL 23 yX9_tell cX9_tell 4 (some .int) 2 := ⟨(ab_t3 (List.mem_of_getElem? (i := 147) rfl) rfl), (ab_t3 (List.mem_of_getElem? (i := 144) rfl) rfl), (ab_t1 (List.mem_of_getElem? (i := 1) rfl) rfl), ⟨by decide +kernel, by decide +kernel⟩, by decide +kernel⟩
theorem cl_X9_122 : ab_Cl RX9 122 yX9_bergToJoin cX9_bergToJoin 7 (some .int) 2 := ⟨(ab_t3 (List.mem_of_getElem? (i := 152) rfl) rfl), (ab_t3 (List.mem_of_getElem? (i := 149) rfl) rfl), (ab_t1 (List.mem_of_getElem? (i := 1) rfl) rfl), ⟨by decide +kernel, by decide +kernel⟩, by decide +kernel⟩
theorem cl_X9_137 : ab_Cl RX9 137 yX0_init cX0_init 1 none 0 := ⟨(ab_t3 (List.mem_of_getElem? (i := 172) rfl) rfl), (ab_t3 (List.mem_of_getElem? (i := 170) rfl) rfl), (ab_t1 (List.mem_of_getElem? (i := 23) rfl) rfl), ⟨by decide +kernel, by decide +kernel⟩, by decide +kernel⟩
theorem cl_X9_146 : ab_Cl RX9 146 yX0_setAt cX0_setAt 3 none 2 := ⟨(ab_t3 (List.mem_of_getElem? (i := 198) rfl) rfl), (ab_t3 (List.mem_of_getElem? (i := 195) rfl) rfl), (ab_t1 (List.mem_of_getElem? (i := 23) rfl) rfl), ⟨by decide +kernel, by decide +kernel⟩, by decide +kernel⟩
theorem cl_X0_29 : ab_Cl RX0 29 yJ7_fill_53178 cJ7_fill_53178 4 none 2 := ⟨(ab_t1 (List.mem_of_getElem? (i := 48) rfl) rfl), (ab_t3 (List.mem_of_getElem? (i := 199) rfl) rfl), (ab_t1 (List.mem_of_getElem? (i := 3) rfl) rfl), ⟨by decide +kernel, by decide +kernel⟩, by decide +kernel⟩
theorem cl_L_29 : ab_Cl RL 29 yX9_step cX9_step 4 (some .int) 1 := ⟨(ab_t3 (List.mem_of_getElem? (i := 207) rfl) rfl), (ab_t3 (List.mem_of_getElem? (i := 204) rfl) rfl), (ab_t1 (List.mem_of_getElem? (i := 1) rfl) rfl), ⟨by decide +kernel, by decide +kernel⟩, by decide +kernel⟩
theorem cl_X9_152 : ab_Cl RX9 152 yX0_goOn cX0_goOn 3 none 2 := ⟨(ab_t3 (List.mem_of_getElem? (i := 212) rfl) rfl), (ab_t3 (List.mem_of_getElem? (i := 209) rfl) rfl), (ab_t1 (List.mem_of_getElem? (i := 23) rfl) rfl), ⟨by decide +kernel, by decide +kernel⟩, by decide +kernel⟩
theorem cl_X0_36 : ab_Cl RX0 36 yX0_drift cX0_drift 5 none 2 := ⟨(ab_t3 (List.mem_of_getElem? (i := 216) rfl) rfl), (ab_t3 (List.mem_of_getElem? (i := 213) rfl) rfl), (ab_t1 (List.mem_of_getElem? (i := 23) rfl) rfl), ⟨by decide +kernel, by decide +kernel⟩, by decide +kernel⟩
theorem cl_X0_40 : ab_Cl RX0 40 yX0_spread cX0_spread 4 none 2 := ⟨(ab_t3 (List.mem_of_getElem? (i := 223) rfl) rfl), (ab_t3 (List.mem_of_getElem? (i := 220) rfl) rfl), (ab_t1 (List.mem_of_getElem? (i := 23) rfl) rfl), ⟨by decide +kernel, by decide +kernel⟩, by decide +kernel⟩
theorem cl_X0_63 : ab_Cl RX0 63 yX0_giveToSides cX0_giveToSides 7 (some .int) 3 := ⟨(ab_t3 (List.mem_of_getElem? (i := 227) rfl) rfl), (ab_t3 (List.mem_of_getElem? (i := 224) rfl) rfl), (ab_t1 (List.mem_of_getElem? (i := 23) rfl) rfl), ⟨by decide +kernel, by decide +kernel⟩, by decide +kernel⟩
theorem cl_X0_43 : ab_Cl RX0 43 yX0_melt cX0_melt 4 none 1 := ⟨(ab_t3 (List.mem_of_getElem? (i := 235) rfl) rfl), (ab_t3 (List.mem_of_getElem? (i := 232) rfl) rfl), (ab_t1 (List.mem_of_getElem? (i := 23) rfl) rfl), ⟨by decide +kernel, by decide +kernel⟩, by decide +kernel⟩
theorem cl_L_33 : ab_Cl RL 33 yX9_look cX9_look 5 (some .int) 2 := ⟨(ab_t4 (List.mem_of_getElem? (i := 2) rfl) rfl), (ab_t3 (List.mem_of_getElem? (i := 239) rfl) rfl), (ab_t1 (List.mem_of_getElem? (i := 1) rfl) rfl), ⟨by decide +kernel, by decide +kernel⟩, by decide +kernel⟩
theorem cl_X9_158 : ab_Cl RX9 158 yX0_lower cX0_lower 4 (some .int) 2 := ⟨(ab_t4 (List.mem_of_getElem? (i := 7) rfl) rfl), (ab_t4 (List.mem_of_getElem? (i := 4) rfl) rfl), (ab_t1 (List.mem_of_getElem? (i := 23) rfl) rfl), ⟨by decide +kernel, by decide +kernel⟩, by decide +kernel⟩
theorem cl_X0_76 : ab_Cl RX0 76 yX0_allParts cX0_allParts 3 (some .int) 0 := ⟨(ab_t4 (List.mem_of_getElem? (i := 11) rfl) rfl), (ab_t4 (List.mem_of_getElem? (i := 8) rfl) rfl), (ab_t1 (List.mem_of_getElem? (i := 23) rfl) rfl), ⟨by decide +kernel, by decide +kernel⟩, by decide +kernel⟩
theorem cl_L_36 : ab_Cl RL 36 yX9_parts cX9_parts 3 (some .int) 2 := ⟨(ab_t4 (List.mem_of_getElem? (i := 18) rfl) rfl), (ab_t4 (List.mem_of_getElem? (i := 15) rfl) rfl), (ab_t1 (List.mem_of_getElem? (i := 1) rfl) rfl), ⟨by decide +kernel, by decide +kernel⟩, by decide +kernel⟩
theorem cl_X9_161 : ab_Cl RX9 161 yX9_checkBerg cX9_checkBerg 2 none 1 := ⟨(ab_t4 (List.mem_of_getElem? (i := 22) rfl) rfl), (ab_t4 (List.mem_of_getElem? (i := 19) rfl) rfl), (ab_t1 (List.mem_of_getElem? (i := 1) rfl) rfl), ⟨by decide +kernel, by decide +kernel⟩, by decide +kernel⟩
theorem cl_L_39 : ab_Cl RL 39 yX9_berg cX9_berg 4 (some .int) 2 := ⟨(ab_t4 (List.mem_of_getElem? (i := 31) rfl) rfl), (ab_t4 (List.mem_of_getElem? (i := 28) rfl) rfl), (ab_t1 (List.mem_of_getElem? (i := 1) rfl) rfl), ⟨by decide +kernel, by decide +kernel⟩, by decide +kernel⟩
theorem cl_X9_180 : ab_Cl RX9 180 yX0_allParts cX0_allParts 3 (some .int) 0 := ⟨(ab_t4 (List.mem_of_getElem? (i := 11) rfl) rfl), (ab_t4 (List.mem_of_getElem? (i := 32) rfl) rfl), (ab_t1 (List.mem_of_getElem? (i := 23) rfl) rfl), ⟨by decide +kernel, by decide +kernel⟩, by decide +kernel⟩
theorem cl_L_44 : ab_Cl RL 44 yX9_read cX9_read 1 (some .int) 0 := ⟨(ab_t4 (List.mem_of_getElem? (i := 55) rfl) rfl), (ab_t4 (List.mem_of_getElem? (i := 52) rfl) rfl), (ab_t1 (List.mem_of_getElem? (i := 1) rfl) rfl), ⟨by decide +kernel, by decide +kernel⟩, by decide +kernel⟩
theorem cl_X9_215 : ab_Cl RX9 215 yX7_findFirstWrong cX7_findFirstWrong 2 (some .int) 0 := ⟨(ab_t4 (List.mem_of_getElem? (i := 59) rfl) rfl), (ab_t4 (List.mem_of_getElem? (i := 56) rfl) rfl), (ab_t1 (List.mem_of_getElem? (i := 7) rfl) rfl), ⟨by decide +kernel, by decide +kernel⟩, by decide +kernel⟩
theorem cl_X7_33 : ab_Cl RX7 33 yX7_takeWord cX7_takeWord 4 (some .boolean) 1 := ⟨(ab_t4 (List.mem_of_getElem? (i := 64) rfl) rfl), (ab_t4 (List.mem_of_getElem? (i := 61) rfl) rfl), (ab_t1 (List.mem_of_getElem? (i := 7) rfl) rfl), ⟨by decide +kernel, by decide +kernel⟩, by decide +kernel⟩
theorem cl_X7_43 : ab_Cl RX7 43 yX7_skipBlanks cX7_skipBlanks 1 none 0 := ⟨(ab_t4 (List.mem_of_getElem? (i := 68) rfl) rfl), (ab_t4 (List.mem_of_getElem? (i := 65) rfl) rfl), (ab_t1 (List.mem_of_getElem? (i := 7) rfl) rfl), ⟨by decide +kernel, by decide +kernel⟩, by decide +kernel⟩
theorem cl_X7_50 : ab_Cl RX7 50 yX7_here cX7_here 2 (some .int) 1 := ⟨(ab_t4 (List.mem_of_getElem? (i := 72) rfl) rfl), (ab_t4 (List.mem_of_getElem? (i := 69) rfl) rfl), (ab_t1 (List.mem_of_getElem? (i := 7) rfl) rfl), ⟨by decide +kernel, by decide +kernel⟩, by decide +kernel⟩
theorem cl_X7_65 : ab_Cl RX7 65 yX7_isLetter cX7_isLetter 1 (some .boolean) 1 := ⟨(ab_t4 (List.mem_of_getElem? (i := 75) rfl) rfl), (ab_t4 (List.mem_of_getElem? (i := 73) rfl) rfl), (ab_t1 (List.mem_of_getElem? (i := 7) rfl) rfl), ⟨by decide +kernel, by decide +kernel⟩, by decide +kernel⟩
theorem cl_X7_68 : ab_Cl RX7 68 yJ0_length_8abf5 cJ0_length_8abf5 1 (some .int) 0 := ⟨(ab_t4 (List.mem_of_getElem? (i := 79) rfl) rfl), (ab_t4 (List.mem_of_getElem? (i := 76) rfl) rfl), (ab_t1 (List.mem_of_getElem? (i := 29) rfl) rfl), ⟨by decide +kernel, by decide +kernel⟩, by decide +kernel⟩
theorem cl_J0_335 : ab_Cl RJ0 335 yJ0_coder_7d493 cJ0_coder_7d493 1 (some .byte) 0 := ⟨(ab_t4 (List.mem_of_getElem? (i := 83) rfl) rfl), (ab_t4 (List.mem_of_getElem? (i := 80) rfl) rfl), (ab_t1 (List.mem_of_getElem? (i := 29) rfl) rfl), ⟨by decide +kernel, by decide +kernel⟩, by decide +kernel⟩
theorem cl_X7_73 : ab_Cl RX7 73 yJ0_charAt_5068e cJ0_charAt_5068e 2 (some .char) 1 := ⟨(ab_t4 (List.mem_of_getElem? (i := 89) rfl) rfl), (ab_t4 (List.mem_of_getElem? (i := 86) rfl) rfl), (ab_t1 (List.mem_of_getElem? (i := 29) rfl) rfl), ⟨by decide +kernel, by decide +kernel⟩, by decide +kernel⟩
theorem cl_J0_492 : ab_Cl RJ0 492 yJ0_isLatin1_aae02 cJ0_isLatin1_aae02 1 (some .boolean) 0 := ⟨(ab_t4 (List.mem_of_getElem? (i := 93) rfl) rfl), (ab_t4 (List.mem_of_getElem? (i := 90) rfl) rfl), (ab_t1 (List.mem_of_getElem? (i := 29) rfl) rfl), ⟨by decide +kernel, by decide +kernel⟩, by decide +kernel⟩
theorem cl_J0_495 : ab_Cl RJ0 495 yJ1_charAt_3b067 cJ1_charAt_3b067 2 (some .char) 2 := ⟨(ab_t4 (List.mem_of_getElem? (i := 96) rfl) rfl), (ab_t4 (List.mem_of_getElem? (i := 94) rfl) rfl), (ab_t1 (List.mem_of_getElem? (i := 30) rfl) rfl), ⟨by decide +kernel, by decide +kernel⟩, by decide +kernel⟩
theorem cl_J1_9 : ab_Cl RJ1 9 yJ0_checkIndex_df160 cJ0_checkIndex_df160 2 none 2 := ⟨(ab_t4 (List.mem_of_getElem? (i := 99) rfl) rfl), (ab_t4 (List.mem_of_getElem? (i := 97) rfl) rfl), (ab_t1 (List.mem_of_getElem? (i := 29) rfl) rfl), ⟨by decide +kernel, by decide +kernel⟩, by decide +kernel⟩
theorem cl_J0_1059 : ab_Cl RJ0 1059 yJ3_checkIndex_8e157 cJ3_checkIndex_8e157 3 (some .int) 3 := ⟨(ab_t2 (List.mem_of_getElem? (i := 46) rfl) rfl), (ab_t4 (List.mem_of_getElem? (i := 102) rfl) rfl), (ab_t1 (List.mem_of_getElem? (i := 20) rfl) rfl), ⟨by decide +kernel, by decide +kernel⟩, by decide +kernel⟩
theorem cl_J0_498 : ab_Cl RJ0 498 yJ2_charAt_3b067 cJ2_charAt_3b067 2 (some .char) 2 := ⟨(ab_t4 (List.mem_of_getElem? (i := 105) rfl) rfl), (ab_t4 (List.mem_of_getElem? (i := 103) rfl) rfl), (ab_t1 (List.mem_of_getElem? (i := 31) rfl) rfl), ⟨by decide +kernel, by decide +kernel⟩, by decide +kernel⟩
theorem cl_J2_67 : ab_Cl RJ2 67 yJ2_checkIndex_2214a cJ2_checkIndex_2214a 2 none 2 := ⟨(ab_t4 (List.mem_of_getElem? (i := 108) rfl) rfl), (ab_t4 (List.mem_of_getElem? (i := 106) rfl) rfl), (ab_t1 (List.mem_of_getElem? (i := 31) rfl) rfl), ⟨by decide +kernel, by decide +kernel⟩, by decide +kernel⟩
theorem cl_J2_48 : ab_Cl RJ2 48 yJ2_length_9d52b cJ2_length_9d52b 1 (some .int) 1 := ⟨(ab_t4 (List.mem_of_getElem? (i := 111) rfl) rfl), (ab_t4 (List.mem_of_getElem? (i := 109) rfl) rfl), (ab_t1 (List.mem_of_getElem? (i := 31) rfl) rfl), ⟨by decide +kernel, by decide +kernel⟩, by decide +kernel⟩
theorem cl_J2_414 : ab_Cl RJ2 414 yJ0_checkIndex_df160 cJ0_checkIndex_df160 2 none 2 := ⟨(ab_t4 (List.mem_of_getElem? (i := 99) rfl) rfl), (ab_t4 (List.mem_of_getElem? (i := 112) rfl) rfl), (ab_t1 (List.mem_of_getElem? (i := 29) rfl) rfl), ⟨by decide +kernel, by decide +kernel⟩, by decide +kernel⟩
theorem cl_J2_71 : ab_Cl RJ2 71 yJ2_getChar_3b067 cJ2_getChar_3b067 2 (some .char) 2 := ⟨(ab_t4 (List.mem_of_getElem? (i := 115) rfl) rfl), (ab_t4 (List.mem_of_getElem? (i := 113) rfl) rfl), (ab_t1 (List.mem_of_getElem? (i := 31) rfl) rfl), ⟨by decide +kernel, by decide +kernel⟩, by decide +kernel⟩
theorem cl_X7_37 : ab_Cl RX7 37 yX7_takeCorners cX7_takeCorners 2 (some .boolean) 0 := ⟨(ab_t4 (List.mem_of_getElem? (i := 125) rfl) rfl), (ab_t4 (List.mem_of_getElem? (i := 122) rfl) rfl), (ab_t1 (List.mem_of_getElem? (i := 7) rfl) rfl), ⟨by decide +kernel, by decide +kernel⟩, by decide +kernel⟩
theorem cl_X7_47 : ab_Cl RX7 47 yX7_takeCorner cX7_takeCorner 3 (some .boolean) 0 := ⟨(ab_t4 (List.mem_of_getElem? (i := 129) rfl) rfl), (ab_t4 (List.mem_of_getElem? (i := 126) rfl) rfl), (ab_t1 (List.mem_of_getElem? (i := 7) rfl) rfl), ⟨by decide +kernel, by decide +kernel⟩, by decide +kernel⟩
theorem cl_X7_54 : ab_Cl RX7 54 yX7_takeNumber cX7_takeNumber 5 (some .int) 1 := ⟨(ab_t4 (List.mem_of_getElem? (i := 133) rfl) rfl), (ab_t4 (List.mem_of_getElem? (i := 130) rfl) rfl), (ab_t1 (List.mem_of_getElem? (i := 7) rfl) rfl), ⟨by decide +kernel, by decide +kernel⟩, by decide +kernel⟩
theorem cl_X7_61 : ab_Cl RX7 61 yX7_isDigit cX7_isDigit 1 (some .boolean) 1 := ⟨(ab_t4 (List.mem_of_getElem? (i := 136) rfl) rfl), (ab_t4 (List.mem_of_getElem? (i := 134) rfl) rfl), (ab_t1 (List.mem_of_getElem? (i := 7) rfl) rfl), ⟨by decide +kernel, by decide +kernel⟩, by decide +kernel⟩
theorem cl_X7_57 : ab_Cl RX7 57 yX4_add cX4_add 3 none 2 := ⟨(ab_t2 (List.mem_of_getElem? (i := 82) rfl) rfl), (ab_t4 (List.mem_of_getElem? (i := 137) rfl) rfl), (ab_t1 (List.mem_of_getElem? (i := 9) rfl) rfl), ⟨by decide +kernel, by decide +kernel⟩, by decide +kernel⟩
theorem cl_L_48 : ab_Cl RL 48 yX9_cancel cX9_cancel 3 (some .boolean) 1 := ⟨(ab_t4 (List.mem_of_getElem? (i := 147) rfl) rfl), (ab_t4 (List.mem_of_getElem? (i := 144) rfl) rfl), (ab_t1 (List.mem_of_getElem? (i := 1) rfl) rfl), ⟨by decide +kernel, by decide +kernel⟩, by decide +kernel⟩
theorem cl_X9_223 : ab_Cl RX9 223 yX9_checkWarning cX9_checkWarning 2 none 1 := ⟨(ab_t4 (List.mem_of_getElem? (i := 151) rfl) rfl), (ab_t4 (List.mem_of_getElem? (i := 148) rfl) rfl), (ab_t1 (List.mem_of_getElem? (i := 1) rfl) rfl), ⟨by decide +kernel, by decide +kernel⟩, by decide +kernel⟩
theorem cl_L_52 : ab_Cl RL 52 yX9_force cX9_force 3 (some .boolean) 2 := ⟨(ab_t4 (List.mem_of_getElem? (i := 159) rfl) rfl), (ab_t4 (List.mem_of_getElem? (i := 156) rfl) rfl), (ab_t1 (List.mem_of_getElem? (i := 1) rfl) rfl), ⟨by decide +kernel, by decide +kernel⟩, by decide +kernel⟩
theorem cl_L_56 : ab_Cl RL 56 yX9_write cX9_write 4 (some .int) 1 := ⟨(ab_t4 (List.mem_of_getElem? (i := 166) rfl) rfl), (ab_t4 (List.mem_of_getElem? (i := 163) rfl) rfl), (ab_t1 (List.mem_of_getElem? (i := 1) rfl) rfl), ⟨by decide +kernel, by decide +kernel⟩, by decide +kernel⟩
theorem cl_X9_239 : ab_Cl RX9 239 yX6_putWord cX6_putWord 3 none 1 := ⟨(ab_t4 (List.mem_of_getElem? (i := 171) rfl) rfl), (ab_t4 (List.mem_of_getElem? (i := 168) rfl) rfl), (ab_t1 (List.mem_of_getElem? (i := 8) rfl) rfl), ⟨by decide +kernel, by decide +kernel⟩, by decide +kernel⟩
theorem cl_X6_23 : ab_Cl RX6 23 yJ0_length_8abf5 cJ0_length_8abf5 1 (some .int) 0 := ⟨(ab_t4 (List.mem_of_getElem? (i := 79) rfl) rfl), (ab_t4 (List.mem_of_getElem? (i := 172) rfl) rfl), (ab_t1 (List.mem_of_getElem? (i := 29) rfl) rfl), ⟨by decide +kernel, by decide +kernel⟩, by decide +kernel⟩
theorem cl_X6_28 : ab_Cl RX6 28 yJ0_charAt_5068e cJ0_charAt_5068e 2 (some .char) 1 := ⟨(ab_t4 (List.mem_of_getElem? (i := 89) rfl) rfl), (ab_t4 (List.mem_of_getElem? (i := 173) rfl) rfl), (ab_t1 (List.mem_of_getElem? (i := 29) rfl) rfl), ⟨by decide +kernel, by decide +kernel⟩, by decide +kernel⟩
theorem cl_X9_244 : ab_Cl RX9 244 yX6_put cX6_put 2 none 1 := ⟨(ab_t2 (List.mem_of_getElem? (i := 19) rfl) rfl), (ab_t4 (List.mem_of_getElem? (i := 174) rfl) rfl), (ab_t1 (List.mem_of_getElem? (i := 8) rfl) rfl), ⟨by decide +kernel, by decide +kernel⟩, by decide +kernel⟩
theorem cl_X9_247 : ab_Cl RX9 247 yX6_putNumber cX6_putNumber 2 none 1 := ⟨(ab_t4 (List.mem_of_getElem? (i := 178) rfl) rfl), (ab_t4 (List.mem_of_getElem? (i := 175) rfl) rfl), (ab_t1 (List.mem_of_getElem? (i := 8) rfl) rfl), ⟨by decide +kernel, by decide +kernel⟩, by decide +kernel⟩
theorem cl_L_59 : ab_Cl RL 59 yX9_way cX9_way 5 (some .int) 3 := ⟨(ab_t4 (List.mem_of_getElem? (i := 186) rfl) rfl), (ab_t4 (List.mem_of_getElem? (i := 183) rfl) rfl), (ab_t1 (List.mem_of_getElem? (i := 1) rfl) rfl), ⟨by decide +kernel, by decide +kernel⟩, by decide +kernel⟩
theorem cl_X9_255 : ab_Cl RX9 255 yX1_openAllBut cX1_openAllBut 3 none 1 := ⟨(ab_t4 (List.mem_of_getElem? (i := 190) rfl) rfl), (ab_t4 (List.mem_of_getElem? (i := 187) rfl) rfl), (ab_t1 (List.mem_of_getElem? (i := 11) rfl) rfl), ⟨by decide +kernel, by decide +kernel⟩, by decide +kernel⟩
theorem cl_X9_259 : ab_Cl RX9 259 yX1_shut cX1_shut 3 none 1 := ⟨(ab_t4 (List.mem_of_getElem? (i := 194) rfl) rfl), (ab_t4 (List.mem_of_getElem? (i := 191) rfl) rfl), (ab_t1 (List.mem_of_getElem? (i := 11) rfl) rfl), ⟨by decide +kernel, by decide +kernel⟩, by decide +kernel⟩
theorem cl_X9_263 : ab_Cl RX9 263 yX1_shortest cX1_shortest 5 (some .int) 2 := ⟨(ab_t4 (List.mem_of_getElem? (i := 198) rfl) rfl), (ab_t4 (List.mem_of_getElem? (i := 195) rfl) rfl), (ab_t1 (List.mem_of_getElem? (i := 11) rfl) rfl), ⟨by decide +kernel, by decide +kernel⟩, by decide +kernel⟩
theorem cl_X1_31 : ab_Cl RX1 31 yX1_isShut cX1_isShut 2 (some .boolean) 1 := ⟨(ab_t4 (List.mem_of_getElem? (i := 202) rfl) rfl), (ab_t4 (List.mem_of_getElem? (i := 199) rfl) rfl), (ab_t1 (List.mem_of_getElem? (i := 11) rfl) rfl), ⟨by decide +kernel, by decide +kernel⟩, by decide +kernel⟩
theorem cl_X1_35 : ab_Cl RX1 35 yJ7_fill_53178 cJ7_fill_53178 4 none 2 := ⟨(ab_t1 (List.mem_of_getElem? (i := 48) rfl) rfl), (ab_t4 (List.mem_of_getElem? (i := 203) rfl) rfl), (ab_t1 (List.mem_of_getElem? (i := 3) rfl) rfl), ⟨by decide +kernel, by decide +kernel⟩, by decide +kernel⟩
theorem cl_X1_41 : ab_Cl RX1 41 yX1_meet cX1_meet 3 none 2 := ⟨(ab_t4 (List.mem_of_getElem? (i := 207) rfl) rfl), (ab_t4 (List.mem_of_getElem? (i := 204) rfl) rfl), (ab_t1 (List.mem_of_getElem? (i := 11) rfl) rfl), ⟨by decide +kernel, by decide +kernel⟩, by decide +kernel⟩
theorem cl_X1_45 : ab_Cl RX1 45 yX1_takeNearest cX1_takeNearest 3 (some .int) 0 := ⟨(ab_t4 (List.mem_of_getElem? (i := 211) rfl) rfl), (ab_t4 (List.mem_of_getElem? (i := 208) rfl) rfl), (ab_t1 (List.mem_of_getElem? (i := 11) rfl) rfl), ⟨by decide +kernel, by decide +kernel⟩, by decide +kernel⟩
theorem cl_X1_49 : ab_Cl RX1 49 yX1_follow cX1_follow 4 none 1 := ⟨(ab_t4 (List.mem_of_getElem? (i := 215) rfl) rfl), (ab_t4 (List.mem_of_getElem? (i := 212) rfl) rfl), (ab_t1 (List.mem_of_getElem? (i := 11) rfl) rfl), ⟨by decide +kernel, by decide +kernel⟩, by decide +kernel⟩
theorem cl_L_82 : ab_Cl RL 82 yX10_thrown cX10_thrown 1 (some .int) 0 := ⟨(ab_t4 (List.mem_of_getElem? (i := 222) rfl) rfl), (ab_t4 (List.mem_of_getElem? (i := 219) rfl) rfl), (ab_t1 (List.mem_of_getElem? (i := 13) rfl) rfl), ⟨by decide +kernel, by decide +kernel⟩, by decide +kernel⟩
theorem cl_L_66 : ab_Cl RL 66 yX10_init cX10_init 2 none 0 := ⟨(ab_t4 (List.mem_of_getElem? (i := 227) rfl) rfl), (ab_t4 (List.mem_of_getElem? (i := 225) rfl) rfl), (ab_t1 (List.mem_of_getElem? (i := 13) rfl) rfl), ⟨by decide +kernel, by decide +kernel⟩, by decide +kernel⟩
theorem cl_L_81 : ab_Cl RL 81 yX10_water cX10_water 5 none 4 := ⟨(ab_t5 (List.mem_of_getElem? (i := 107) rfl) rfl), (ab_t5 (List.mem_of_getElem? (i := 104) rfl) rfl), (ab_t1 (List.mem_of_getElem? (i := 13) rfl) rfl), ⟨by decide +kernel, by decide +kernel⟩, by decide +kernel⟩
theorem cl_X10_107 : ab_Cl RX10 107 yX10_noSquare cX10_noSquare 1 (some .boolean) 1 := ⟨(ab_t5 (List.mem_of_getElem? (i := 110) rfl) rfl), (ab_t5 (List.mem_of_getElem? (i := 108) rfl) rfl), (ab_t1 (List.mem_of_getElem? (i := 13) rfl) rfl), ⟨by decide +kernel, by decide +kernel⟩, by decide +kernel⟩
theorem cl_X10_97 : ab_Cl RX10 97 yX10_in cX10_in 3 (some .boolean) 3 := ⟨(ab_t5 (List.mem_of_getElem? (i := 113) rfl) rfl), (ab_t5 (List.mem_of_getElem? (i := 111) rfl) rfl), (ab_t1 (List.mem_of_getElem? (i := 13) rfl) rfl), ⟨by decide +kernel, by decide +kernel⟩, by decide +kernel⟩
theorem cl_X10_111 : ab_Cl RX10 111 yX10_throwsIf cX10_throwsIf 3 (some .boolean) 2 := ⟨(ab_t5 (List.mem_of_getElem? (i := 117) rfl) rfl), (ab_t5 (List.mem_of_getElem? (i := 114) rfl) rfl), (ab_t1 (List.mem_of_getElem? (i := 13) rfl) rfl), ⟨by decide +kernel, by decide +kernel⟩, by decide +kernel⟩
theorem cl_L_88 : ab_Cl RL 88 yX10_land cX10_land 3 none 2 := ⟨(ab_t5 (List.mem_of_getElem? (i := 121) rfl) rfl), (ab_t5 (List.mem_of_getElem? (i := 118) rfl) rfl), (ab_t1 (List.mem_of_getElem? (i := 13) rfl) rfl), ⟨by decide +kernel, by decide +kernel⟩, by decide +kernel⟩
theorem cl_X10_115 : ab_Cl RX10 115 yX10_mayBe cX10_mayBe 4 (some .boolean) 1 := ⟨(ab_t5 (List.mem_of_getElem? (i := 125) rfl) rfl), (ab_t5 (List.mem_of_getElem? (i := 122) rfl) rfl), (ab_t1 (List.mem_of_getElem? (i := 13) rfl) rfl), ⟨by decide +kernel, by decide +kernel⟩, by decide +kernel⟩
theorem cl_L_92 : ab_Cl RL 92 yX10_tell cX10_tell 6 (some .int) 2 := ⟨(ab_t5 (List.mem_of_getElem? (i := 129) rfl) rfl), (ab_t5 (List.mem_of_getElem? (i := 126) rfl) rfl), (ab_t1 (List.mem_of_getElem? (i := 13) rfl) rfl), ⟨by decide +kernel, by decide +kernel⟩, by decide +kernel⟩
theorem cl_X10_122 : ab_Cl RX10 122 yX10_puts cX10_puts 5 none 3 := ⟨(ab_t5 (List.mem_of_getElem? (i := 133) rfl) rfl), (ab_t5 (List.mem_of_getElem? (i := 130) rfl) rfl), (ab_t1 (List.mem_of_getElem? (i := 13) rfl) rfl), ⟨by decide +kernel, by decide +kernel⟩, by decide +kernel⟩
theorem cl_L_96 : ab_Cl RL 96 yX10_step cX10_step 4 (some .int) 1 := ⟨(ab_t5 (List.mem_of_getElem? (i := 138) rfl) rfl), (ab_t5 (List.mem_of_getElem? (i := 135) rfl) rfl), (ab_t1 (List.mem_of_getElem? (i := 13) rfl) rfl), ⟨by decide +kernel, by decide +kernel⟩, by decide +kernel⟩
theorem cl_X10_143 : ab_Cl RX10 143 yX10_drifts cX10_drifts 6 none 1 := ⟨(ab_t5 (List.mem_of_getElem? (i := 142) rfl) rfl), (ab_t5 (List.mem_of_getElem? (i := 139) rfl) rfl), (ab_t1 (List.mem_of_getElem? (i := 13) rfl) rfl), ⟨by decide +kernel, by decide +kernel⟩, by decide +kernel⟩
theorem cl_X10_126 : ab_Cl RX10 126 yX10_isSea cX10_isSea 2 (some .boolean) 2 := ⟨(ab_t5 (List.mem_of_getElem? (i := 145) rfl) rfl), (ab_t5 (List.mem_of_getElem? (i := 143) rfl) rfl), (ab_t1 (List.mem_of_getElem? (i := 13) rfl) rfl), ⟨by decide +kernel, by decide +kernel⟩, by decide +kernel⟩
theorem cl_X10_146 : ab_Cl RX10 146 yX10_spreads cX10_spreads 6 none 1 := ⟨(ab_t5 (List.mem_of_getElem? (i := 149) rfl) rfl), (ab_t5 (List.mem_of_getElem? (i := 146) rfl) rfl), (ab_t1 (List.mem_of_getElem? (i := 13) rfl) rfl), ⟨by decide +kernel, by decide +kernel⟩, by decide +kernel⟩
theorem cl_X10_149 : ab_Cl RX10 149 yX10_melts cX10_melts 4 none 1 := ⟨(ab_t5 (List.mem_of_getElem? (i := 153) rfl) rfl), (ab_t5 (List.mem_of_getElem? (i := 150) rfl) rfl), (ab_t1 (List.mem_of_getElem? (i := 13) rfl) rfl), ⟨by decide +kernel, by decide +kernel⟩, by decide +kernel⟩
theorem cl_X10_130 : ab_Cl RX10 130 yJ9_min_7cf53 cJ9_min_7cf53 2 (some .int) 2 := ⟨(ab_t2 (List.mem_of_getElem? (i := 63) rfl) rfl), (ab_t5 (List.mem_of_getElem? (i := 154) rfl) rfl), (ab_t1 (List.mem_of_getElem? (i := 25) rfl) rfl), ⟨by decide +kernel, by decide +kernel⟩, by decide +kernel⟩
theorem cl_X10_136 : ab_Cl RX10 136 yX10_goes cX10_goes 3 none 1 := ⟨(ab_t5 (List.mem_of_getElem? (i := 158) rfl) rfl), (ab_t5 (List.mem_of_getElem? (i := 155) rfl) rfl), (ab_t1 (List.mem_of_getElem? (i := 13) rfl) rfl), ⟨by decide +kernel, by decide +kernel⟩, by decide +kernel⟩
theorem cl_L_99 : ab_Cl RL 99 yX10_look cX10_look 7 (some .int) 2 := ⟨(ab_t5 (List.mem_of_getElem? (i := 162) rfl) rfl), (ab_t5 (List.mem_of_getElem? (i := 159) rfl) rfl), (ab_t1 (List.mem_of_getElem? (i := 13) rfl) rfl), ⟨by decide +kernel, by decide +kernel⟩, by decide +kernel⟩
theorem cl_X10_152 : ab_Cl RX10 152 yX10_squares cX10_squares 4 (some .int) 1 := ⟨(ab_t5 (List.mem_of_getElem? (i := 166) rfl) rfl), (ab_t5 (List.mem_of_getElem? (i := 163) rfl) rfl), (ab_t1 (List.mem_of_getElem? (i := 13) rfl) rfl), ⟨by decide +kernel, by decide +kernel⟩, by decide +kernel⟩
theorem cl_L_102 : ab_Cl RL 102 yX10_parts cX10_parts 3 (some .int) 2 := ⟨(ab_t5 (List.mem_of_getElem? (i := 170) rfl) rfl), (ab_t5 (List.mem_of_getElem? (i := 167) rfl) rfl), (ab_t1 (List.mem_of_getElem? (i := 13) rfl) rfl), ⟨by decide +kernel, by decide +kernel⟩, by decide +kernel⟩
theorem cl_X10_156 : ab_Cl RX10 156 yX10_noBerg cX10_noBerg 2 (some .boolean) 1 := ⟨(ab_t5 (List.mem_of_getElem? (i := 174) rfl) rfl), (ab_t5 (List.mem_of_getElem? (i := 171) rfl) rfl), (ab_t1 (List.mem_of_getElem? (i := 13) rfl) rfl), ⟨by decide +kernel, by decide +kernel⟩, by decide +kernel⟩
theorem cl_L_105 : ab_Cl RL 105 yX10_berg cX10_berg 5 (some .int) 2 := ⟨(ab_t5 (List.mem_of_getElem? (i := 178) rfl) rfl), (ab_t5 (List.mem_of_getElem? (i := 175) rfl) rfl), (ab_t1 (List.mem_of_getElem? (i := 13) rfl) rfl), ⟨by decide +kernel, by decide +kernel⟩, by decide +kernel⟩
theorem cl_L_109 : ab_Cl RL 109 yX10_limit cX10_limit 1 (some .int) 0 := ⟨(ab_t5 (List.mem_of_getElem? (i := 182) rfl) rfl), (ab_t5 (List.mem_of_getElem? (i := 179) rfl) rfl), (ab_t1 (List.mem_of_getElem? (i := 13) rfl) rfl), ⟨by decide +kernel, by decide +kernel⟩, by decide +kernel⟩
theorem cl_X10_172 : ab_Cl RX10 172 yX10_limits cX10_limits 6 none 0 := ⟨(ab_t5 (List.mem_of_getElem? (i := 186) rfl) rfl), (ab_t5 (List.mem_of_getElem? (i := 183) rfl) rfl), (ab_t1 (List.mem_of_getElem? (i := 13) rfl) rfl), ⟨by decide +kernel, by decide +kernel⟩, by decide +kernel⟩
theorem cl_X10_162 : ab_Cl RX10 162 yX10_isMore cX10_isMore 5 (some .boolean) 3 := ⟨(ab_t5 (List.mem_of_getElem? (i := 190) rfl) rfl), (ab_t5 (List.mem_of_getElem? (i := 187) rfl) rfl), (ab_t1 (List.mem_of_getElem? (i := 13) rfl) rfl), ⟨by decide +kernel, by decide +kernel⟩, by decide +kernel⟩
theorem cl_X10_165 : ab_Cl RX10 165 yX10_side cX10_side 6 (some .int) 6 := ⟨(ab_t5 (List.mem_of_getElem? (i := 193) rfl) rfl), (ab_t5 (List.mem_of_getElem? (i := 191) rfl) rfl), (ab_t1 (List.mem_of_getElem? (i := 13) rfl) rfl), ⟨by decide +kernel, by decide +kernel⟩, by decide +kernel⟩
theorem cl_X10_169 : ab_Cl RX10 169 yJ9_abs_0f7a4 cJ9_abs_0f7a4 1 (some .int) 1 := ⟨(ab_t5 (List.mem_of_getElem? (i := 196) rfl) rfl), (ab_t5 (List.mem_of_getElem? (i := 194) rfl) rfl), (ab_t1 (List.mem_of_getElem? (i := 25) rfl) rfl), ⟨by decide +kernel, by decide +kernel⟩, by decide +kernel⟩
theorem cl_L_114 : ab_Cl RL 114 yX10_corner cX10_corner 3 (some .int) 2 := ⟨(ab_t5 (List.mem_of_getElem? (i := 200) rfl) rfl), (ab_t5 (List.mem_of_getElem? (i := 197) rfl) rfl), (ab_t1 (List.mem_of_getElem? (i := 13) rfl) rfl), ⟨by decide +kernel, by decide +kernel⟩, by decide +kernel⟩
theorem cl_L_118 : ab_Cl RL 118 yX10_warn cX10_warn 2 (some .int) 0 := ⟨(ab_t5 (List.mem_of_getElem? (i := 204) rfl) rfl), (ab_t5 (List.mem_of_getElem? (i := 201) rfl) rfl), (ab_t1 (List.mem_of_getElem? (i := 13) rfl) rfl), ⟨by decide +kernel, by decide +kernel⟩, by decide +kernel⟩
theorem cl_X10_175 : ab_Cl RX10 175 yX10_takes cX10_takes 2 (some .int) 1 := ⟨(ab_t5 (List.mem_of_getElem? (i := 208) rfl) rfl), (ab_t5 (List.mem_of_getElem? (i := 205) rfl) rfl), (ab_t1 (List.mem_of_getElem? (i := 13) rfl) rfl), ⟨by decide +kernel, by decide +kernel⟩, by decide +kernel⟩
theorem cl_L_71 : ab_Cl RL 71 yX10_feed cX10_feed 7 (some .int) 5 := ⟨(ab_t5 (List.mem_of_getElem? (i := 212) rfl) rfl), (ab_t5 (List.mem_of_getElem? (i := 209) rfl) rfl), (ab_t1 (List.mem_of_getElem? (i := 13) rfl) rfl), ⟨by decide +kernel, by decide +kernel⟩, by decide +kernel⟩
theorem cl_L_75 : ab_Cl RL 75 yX10_end cX10_end 2 (some .boolean) 1 := ⟨(ab_t5 (List.mem_of_getElem? (i := 216) rfl) rfl), (ab_t5 (List.mem_of_getElem? (i := 213) rfl) rfl), (ab_t1 (List.mem_of_getElem? (i := 13) rfl) rfl), ⟨by decide +kernel, by decide +kernel⟩, by decide +kernel⟩
theorem cl_L_122 : ab_Cl RL 122 yX10_read cX10_read 3 (some .int) 0 := ⟨(ab_t5 (List.mem_of_getElem? (i := 220) rfl) rfl), (ab_t5 (List.mem_of_getElem? (i := 217) rfl) rfl), (ab_t1 (List.mem_of_getElem? (i := 13) rfl) rfl), ⟨by decide +kernel, by decide +kernel⟩, by decide +kernel⟩
theorem cl_X10_219 : ab_Cl RX10 219 yX10_readRing cX10_readRing 3 (some .boolean) 0 := ⟨(ab_t5 (List.mem_of_getElem? (i := 224) rfl) rfl), (ab_t5 (List.mem_of_getElem? (i := 221) rfl) rfl), (ab_t1 (List.mem_of_getElem? (i := 13) rfl) rfl), ⟨by decide +kernel, by decide +kernel⟩, by decide +kernel⟩
theorem cl_X10_211 : ab_Cl RX10 211 yX10_readWord cX10_readWord 4 (some .boolean) 1 := ⟨(ab_t5 (List.mem_of_getElem? (i := 229) rfl) rfl), (ab_t5 (List.mem_of_getElem? (i := 226) rfl) rfl), (ab_t1 (List.mem_of_getElem? (i := 13) rfl) rfl), ⟨by decide +kernel, by decide +kernel⟩, by decide +kernel⟩
theorem cl_X10_193 : ab_Cl RX10 193 yX10_blanks cX10_blanks 1 none 0 := ⟨(ab_t5 (List.mem_of_getElem? (i := 233) rfl) rfl), (ab_t5 (List.mem_of_getElem? (i := 230) rfl) rfl), (ab_t1 (List.mem_of_getElem? (i := 13) rfl) rfl), ⟨by decide +kernel, by decide +kernel⟩, by decide +kernel⟩
theorem cl_X10_187 : ab_Cl RX10 187 yX10_isAt cX10_isAt 3 (some .boolean) 2 := ⟨(ab_t5 (List.mem_of_getElem? (i := 237) rfl) rfl), (ab_t5 (List.mem_of_getElem? (i := 234) rfl) rfl), (ab_t1 (List.mem_of_getElem? (i := 13) rfl) rfl), ⟨by decide +kernel, by decide +kernel⟩, by decide +kernel⟩
theorem cl_X10_196 : ab_Cl RX10 196 yJ0_length_8abf5 cJ0_length_8abf5 1 (some .int) 0 := ⟨(ab_t4 (List.mem_of_getElem? (i := 79) rfl) rfl), (ab_t5 (List.mem_of_getElem? (i := 238) rfl) rfl), (ab_t1 (List.mem_of_getElem? (i := 29) rfl) rfl), ⟨by decide +kernel, by decide +kernel⟩, by decide +kernel⟩
theorem cl_X10_202 : ab_Cl RX10 202 yJ0_charAt_5068e cJ0_charAt_5068e 2 (some .char) 1 := ⟨(ab_t4 (List.mem_of_getElem? (i := 89) rfl) rfl), (ab_t5 (List.mem_of_getElem? (i := 239) rfl) rfl), (ab_t1 (List.mem_of_getElem? (i := 29) rfl) rfl), ⟨by decide +kernel, by decide +kernel⟩, by decide +kernel⟩
theorem cl_X10_215 : ab_Cl RX10 215 yX10_readNumber cX10_readNumber 3 (some .int) 1 := ⟨(ab_t6 (List.mem_of_getElem? (i := 3) rfl) rfl), (ab_t6 (List.mem_of_getElem? (i := 0) rfl) rfl), (ab_t1 (List.mem_of_getElem? (i := 13) rfl) rfl), ⟨by decide +kernel, by decide +kernel⟩, by decide +kernel⟩
theorem cl_L_126 : ab_Cl RL 126 yX10_fault cX10_fault 1 (some .int) 0 := ⟨(ab_t6 (List.mem_of_getElem? (i := 8) rfl) rfl), (ab_t6 (List.mem_of_getElem? (i := 5) rfl) rfl), (ab_t1 (List.mem_of_getElem? (i := 13) rfl) rfl), ⟨by decide +kernel, by decide +kernel⟩, by decide +kernel⟩
theorem cl_L_129 : ab_Cl RL 129 yX10_cancel cX10_cancel 2 (some .boolean) 1 := ⟨(ab_t6 (List.mem_of_getElem? (i := 12) rfl) rfl), (ab_t6 (List.mem_of_getElem? (i := 9) rfl) rfl), (ab_t1 (List.mem_of_getElem? (i := 13) rfl) rfl), ⟨by decide +kernel, by decide +kernel⟩, by decide +kernel⟩
theorem cl_X10_223 : ab_Cl RX10 223 yX10_noWarning cX10_noWarning 2 (some .boolean) 1 := ⟨(ab_t6 (List.mem_of_getElem? (i := 16) rfl) rfl), (ab_t6 (List.mem_of_getElem? (i := 13) rfl) rfl), (ab_t1 (List.mem_of_getElem? (i := 13) rfl) rfl), ⟨by decide +kernel, by decide +kernel⟩, by decide +kernel⟩
theorem cl_L_132 : ab_Cl RL 132 yX10_force cX10_force 3 (some .boolean) 2 := ⟨(ab_t6 (List.mem_of_getElem? (i := 20) rfl) rfl), (ab_t6 (List.mem_of_getElem? (i := 17) rfl) rfl), (ab_t1 (List.mem_of_getElem? (i := 13) rfl) rfl), ⟨by decide +kernel, by decide +kernel⟩, by decide +kernel⟩
theorem cl_X10_226 : ab_Cl RX10 226 yX10_isInForce cX10_isInForce 3 (some .boolean) 2 := ⟨(ab_t6 (List.mem_of_getElem? (i := 24) rfl) rfl), (ab_t6 (List.mem_of_getElem? (i := 21) rfl) rfl), (ab_t1 (List.mem_of_getElem? (i := 13) rfl) rfl), ⟨by decide +kernel, by decide +kernel⟩, by decide +kernel⟩
theorem cl_L_135 : ab_Cl RL 135 yX10_write cX10_write 3 (some .int) 1 := ⟨(ab_t6 (List.mem_of_getElem? (i := 28) rfl) rfl), (ab_t6 (List.mem_of_getElem? (i := 25) rfl) rfl), (ab_t1 (List.mem_of_getElem? (i := 13) rfl) rfl), ⟨by decide +kernel, by decide +kernel⟩, by decide +kernel⟩
theorem cl_X10_234 : ab_Cl RX10 234 yX10_putText cX10_putText 3 none 1 := ⟨(ab_t6 (List.mem_of_getElem? (i := 33) rfl) rfl), (ab_t6 (List.mem_of_getElem? (i := 30) rfl) rfl), (ab_t1 (List.mem_of_getElem? (i := 13) rfl) rfl), ⟨by decide +kernel, by decide +kernel⟩, by decide +kernel⟩
theorem cl_X10_229 : ab_Cl RX10 229 yX10_put cX10_put 2 none 1 := ⟨(ab_t6 (List.mem_of_getElem? (i := 37) rfl) rfl), (ab_t6 (List.mem_of_getElem? (i := 34) rfl) rfl), (ab_t1 (List.mem_of_getElem? (i := 13) rfl) rfl), ⟨by decide +kernel, by decide +kernel⟩, by decide +kernel⟩
theorem cl_X10_238 : ab_Cl RX10 238 yX10_putNumber cX10_putNumber 2 none 1 := ⟨(ab_t6 (List.mem_of_getElem? (i := 41) rfl) rfl), (ab_t6 (List.mem_of_getElem? (i := 38) rfl) rfl), (ab_t1 (List.mem_of_getElem? (i := 13) rfl) rfl), ⟨by decide +kernel, by decide +kernel⟩, by decide +kernel⟩
theorem cl_L_139 : ab_Cl RL 139 yX10_taped cX10_taped 2 (some .int) 1 := ⟨(ab_t6 (List.mem_of_getElem? (i := 46) rfl) rfl), (ab_t6 (List.mem_of_getElem? (i := 43) rfl) rfl), (ab_t1 (List.mem_of_getElem? (i := 13) rfl) rfl), ⟨by decide +kernel, by decide +kernel⟩, by decide +kernel⟩
theorem cl_L_143 : ab_Cl RL 143 yX10_way cX10_way 7 (some .int) 3 := ⟨(ab_t6 (List.mem_of_getElem? (i := 50) rfl) rfl), (ab_t6 (List.mem_of_getElem? (i := 47) rfl) rfl), (ab_t1 (List.mem_of_getElem? (i := 13) rfl) rfl), ⟨by decide +kernel, by decide +kernel⟩, by decide +kernel⟩
theorem cl_X10_243 : ab_Cl RX10 243 yX10_isWithin cX10_isWithin 13 (some .boolean) 2 := ⟨(ab_t6 (List.mem_of_getElem? (i := 54) rfl) rfl), (ab_t6 (List.mem_of_getElem? (i := 51) rfl) rfl), (ab_t1 (List.mem_of_getElem? (i := 13) rfl) rfl), ⟨by decide +kernel, by decide +kernel⟩, by decide +kernel⟩
theorem cl_X10_246 : ab_Cl RX10 246 yX10_least cX10_least 6 (some .int) 1 := ⟨(ab_t6 (List.mem_of_getElem? (i := 58) rfl) rfl), (ab_t6 (List.mem_of_getElem? (i := 55) rfl) rfl), (ab_t1 (List.mem_of_getElem? (i := 13) rfl) rfl), ⟨by decide +kernel, by decide +kernel⟩, by decide +kernel⟩
theorem cl_L_147 : ab_Cl RL 147 yX10_flight cX10_flight 6 (some .int) 0 := ⟨(ab_t6 (List.mem_of_getElem? (i := 62) rfl) rfl), (ab_t6 (List.mem_of_getElem? (i := 59) rfl) rfl), (ab_t1 (List.mem_of_getElem? (i := 13) rfl) rfl), ⟨by decide +kernel, by decide +kernel⟩, by decide +kernel⟩
theorem cl_X10_249 : ab_Cl RX10 249 yJ9_max_7cf53 cJ9_max_7cf53 2 (some .int) 2 := ⟨(ab_t2 (List.mem_of_getElem? (i := 66) rfl) rfl), (ab_t6 (List.mem_of_getElem? (i := 63) rfl) rfl), (ab_t1 (List.mem_of_getElem? (i := 25) rfl) rfl), ⟨by decide +kernel, by decide +kernel⟩, by decide +kernel⟩
theorem cl_L_151 : ab_Cl RL 151 yX10_count cX10_count 4 (some .int) 1 := ⟨(ab_t6 (List.mem_of_getElem? (i := 67) rfl) rfl), (ab_t6 (List.mem_of_getElem? (i := 64) rfl) rfl), (ab_t1 (List.mem_of_getElem? (i := 13) rfl) rfl), ⟨by decide +kernel, by decide +kernel⟩, by decide +kernel⟩
theorem im_yX9_init : Cond.instanceMethod yX9_init ∈ ab_tb := (ab_t1 (List.mem_of_getElem? (i := 35) rfl) rfl)
theorem im_yX5_init : Cond.instanceMethod yX5_init ∈ ab_tb := (ab_t1 (List.mem_of_getElem? (i := 43) rfl) rfl)
theorem sc_yJ7_fill_53178 : Cond.static yJ7_fill_53178 ∈ ab_tb := (ab_t1 (List.mem_of_getElem? (i := 47) rfl) rfl)
theorem im_yJx4a65c_init_da8c8 : Cond.instanceMethod yJx4a65c_init_da8c8 ∈ ab_tb := (ab_t1 (List.mem_of_getElem? (i := 75) rfl) rfl)
theorem im_yJxc12de_init_da8c8 : Cond.instanceMethod yJxc12de_init_da8c8 ∈ ab_tb := (ab_t1 (List.mem_of_getElem? (i := 78) rfl) rfl)
theorem im_yJxa1e45_init_da8c8 : Cond.instanceMethod yJxa1e45_init_da8c8 ∈ ab_tb := (ab_t1 (List.mem_of_getElem? (i := 81) rfl) rfl)
theorem im_yX7_init : Cond.instanceMethod yX7_init ∈ ab_tb := (ab_t1 (List.mem_of_getElem? (i := 101) rfl) rfl)
theorem im_yX6_init : Cond.instanceMethod yX6_init ∈ ab_tb := (ab_t1 (List.mem_of_getElem? (i := 107) rfl) rfl)
theorem im_yX4_init : Cond.instanceMethod yX4_init ∈ ab_tb := (ab_t1 (List.mem_of_getElem? (i := 124) rfl) rfl)
theorem im_yX3_init : Cond.instanceMethod yX3_init ∈ ab_tb := (ab_t1 (List.mem_of_getElem? (i := 160) rfl) rfl)
theorem im_yX1_init : Cond.instanceMethod yX1_init ∈ ab_tb := (ab_t1 (List.mem_of_getElem? (i := 179) rfl) rfl)
theorem im_yX2_init : Cond.instanceMethod yX2_init ∈ ab_tb := (ab_t1 (List.mem_of_getElem? (i := 198) rfl) rfl)
theorem im_yX9_feed : Cond.instanceMethod yX9_feed ∈ ab_tb := (ab_t2 (List.mem_of_getElem? (i := 9) rfl) rfl)
theorem se_yX9_feed : Cond.selects yX9_feed.cls yX9_feed yX9_feed ∈ ab_tb := (ab_t2 (List.mem_of_getElem? (i := 10) rfl) rfl)
theorem im_yX6_putFour : Cond.instanceMethod yX6_putFour ∈ ab_tb := (ab_t2 (List.mem_of_getElem? (i := 13) rfl) rfl)
theorem se_yX6_putFour : Cond.selects yX6_putFour.cls yX6_putFour yX6_putFour ∈ ab_tb := (ab_t2 (List.mem_of_getElem? (i := 14) rfl) rfl)
theorem im_yX6_put : Cond.instanceMethod yX6_put ∈ ab_tb := (ab_t2 (List.mem_of_getElem? (i := 17) rfl) rfl)
theorem se_yX6_put : Cond.selects yX6_put.cls yX6_put yX6_put ∈ ab_tb := (ab_t2 (List.mem_of_getElem? (i := 18) rfl) rfl)
theorem im_yX9_end : Cond.instanceMethod yX9_end ∈ ab_tb := (ab_t2 (List.mem_of_getElem? (i := 21) rfl) rfl)
theorem se_yX9_end : Cond.selects yX9_end.cls yX9_end yX9_end ∈ ab_tb := (ab_t2 (List.mem_of_getElem? (i := 22) rfl) rfl)
theorem im_yX9_limit : Cond.instanceMethod yX9_limit ∈ ab_tb := (ab_t2 (List.mem_of_getElem? (i := 25) rfl) rfl)
theorem se_yX9_limit : Cond.selects yX9_limit.cls yX9_limit yX9_limit ∈ ab_tb := (ab_t2 (List.mem_of_getElem? (i := 26) rfl) rfl)
theorem im_yX9_gatherParts : Cond.instanceMethod yX9_gatherParts ∈ ab_tb := (ab_t2 (List.mem_of_getElem? (i := 30) rfl) rfl)
theorem se_yX9_gatherParts : Cond.selects yX9_gatherParts.cls yX9_gatherParts yX9_gatherParts ∈ ab_tb := (ab_tp (List.mem_of_getElem? (i := 0) rfl) rfl)
theorem im_yJx4a65c_size_8abf5 : Cond.instanceMethod yJx4a65c_size_8abf5 ∈ ab_tb := (ab_t2 (List.mem_of_getElem? (i := 34) rfl) rfl)
theorem se_yJx4a65c_size_8abf5 : Cond.selects yJx4a65c_size_8abf5.cls yJx4a65c_size_8abf5 yJx4a65c_size_8abf5 ∈ ab_tb := (ab_t2 (List.mem_of_getElem? (i := 35) rfl) rfl)
theorem im_yJx4a65c_get_915e3 : Cond.instanceMethod yJx4a65c_get_915e3 ∈ ab_tb := (ab_t2 (List.mem_of_getElem? (i := 38) rfl) rfl)
theorem se_yJx4a65c_get_915e3 : Cond.selects yJx4a65c_get_915e3.cls yJx4a65c_get_915e3 yJx4a65c_get_915e3 ∈ ab_tb := (ab_t2 (List.mem_of_getElem? (i := 39) rfl) rfl)
theorem sc_yJ15_checkIndex_7cf53 : Cond.static yJ15_checkIndex_7cf53 ∈ ab_tb := (ab_t2 (List.mem_of_getElem? (i := 42) rfl) rfl)
theorem sc_yJ3_checkIndex_8e157 : Cond.static yJ3_checkIndex_8e157 ∈ ab_tb := (ab_t2 (List.mem_of_getElem? (i := 45) rfl) rfl)
theorem im_yJx4a65c_elementData_915e3 : Cond.instanceMethod yJx4a65c_elementData_915e3 ∈ ab_tb := (ab_t2 (List.mem_of_getElem? (i := 48) rfl) rfl)
theorem se_yJx4a65c_elementData_915e3 : Cond.selects yJx4a65c_elementData_915e3.cls yJx4a65c_elementData_915e3 yJx4a65c_elementData_915e3 ∈ ab_tb := (ab_t2 (List.mem_of_getElem? (i := 49) rfl) rfl)
theorem im_yX3_wrap : Cond.instanceMethod yX3_wrap ∈ ab_tb := (ab_t2 (List.mem_of_getElem? (i := 53) rfl) rfl)
theorem se_yX3_wrap : Cond.selects yX3_wrap.cls yX3_wrap yX3_wrap ∈ ab_tb := (ab_t2 (List.mem_of_getElem? (i := 54) rfl) rfl)
theorem im_yX3_stretch : Cond.instanceMethod yX3_stretch ∈ ab_tb := (ab_t2 (List.mem_of_getElem? (i := 59) rfl) rfl)
theorem se_yX3_stretch : Cond.selects yX3_stretch.cls yX3_stretch yX3_stretch ∈ ab_tb := (ab_tp (List.mem_of_getElem? (i := 1) rfl) rfl)
theorem sc_yJ9_min_7cf53 : Cond.static yJ9_min_7cf53 ∈ ab_tb := (ab_t2 (List.mem_of_getElem? (i := 62) rfl) rfl)
theorem sc_yJ9_max_7cf53 : Cond.static yJ9_max_7cf53 ∈ ab_tb := (ab_t2 (List.mem_of_getElem? (i := 65) rfl) rfl)
theorem im_yX3_goBelow : Cond.instanceMethod yX3_goBelow ∈ ab_tb := (ab_t2 (List.mem_of_getElem? (i := 69) rfl) rfl)
theorem se_yX3_goBelow : Cond.selects yX3_goBelow.cls yX3_goBelow yX3_goBelow ∈ ab_tb := (ab_tp (List.mem_of_getElem? (i := 2) rfl) rfl)
theorem im_yX4_dropForLeftTurn : Cond.instanceMethod yX4_dropForLeftTurn ∈ ab_tb := (ab_t2 (List.mem_of_getElem? (i := 72) rfl) rfl)
theorem se_yX4_dropForLeftTurn : Cond.selects yX4_dropForLeftTurn.cls yX4_dropForLeftTurn yX4_dropForLeftTurn ∈ ab_tb := (ab_t2 (List.mem_of_getElem? (i := 73) rfl) rfl)
theorem im_yX4_turnsLeft : Cond.instanceMethod yX4_turnsLeft ∈ ab_tb := (ab_t2 (List.mem_of_getElem? (i := 77) rfl) rfl)
theorem se_yX4_turnsLeft : Cond.selects yX4_turnsLeft.cls yX4_turnsLeft yX4_turnsLeft ∈ ab_tb := (ab_tp (List.mem_of_getElem? (i := 3) rfl) rfl)
theorem im_yX4_add : Cond.instanceMethod yX4_add ∈ ab_tb := (ab_t2 (List.mem_of_getElem? (i := 80) rfl) rfl)
theorem se_yX4_add : Cond.selects yX4_add.cls yX4_add yX4_add ∈ ab_tb := (ab_t2 (List.mem_of_getElem? (i := 81) rfl) rfl)
theorem im_yX3_goAbove : Cond.instanceMethod yX3_goAbove ∈ ab_tb := (ab_t2 (List.mem_of_getElem? (i := 85) rfl) rfl)
theorem se_yX3_goAbove : Cond.selects yX3_goAbove.cls yX3_goAbove yX3_goAbove ∈ ab_tb := (ab_tp (List.mem_of_getElem? (i := 4) rfl) rfl)
theorem im_yX9_corner : Cond.instanceMethod yX9_corner ∈ ab_tb := (ab_t2 (List.mem_of_getElem? (i := 88) rfl) rfl)
theorem se_yX9_corner : Cond.selects yX9_corner.cls yX9_corner yX9_corner ∈ ab_tb := (ab_t2 (List.mem_of_getElem? (i := 89) rfl) rfl)
theorem im_yX9_warn : Cond.instanceMethod yX9_warn ∈ ab_tb := (ab_t2 (List.mem_of_getElem? (i := 92) rfl) rfl)
theorem se_yX9_warn : Cond.selects yX9_warn.cls yX9_warn yX9_warn ∈ ab_tb := (ab_t2 (List.mem_of_getElem? (i := 93) rfl) rfl)
theorem im_yX9_addWarning : Cond.instanceMethod yX9_addWarning ∈ ab_tb := (ab_t2 (List.mem_of_getElem? (i := 97) rfl) rfl)
theorem se_yX9_addWarning : Cond.selects yX9_addWarning.cls yX9_addWarning yX9_addWarning ∈ ab_tb := (ab_tp (List.mem_of_getElem? (i := 5) rfl) rfl)
theorem im_yX8_init : Cond.instanceMethod yX8_init ∈ ab_tb := (ab_t2 (List.mem_of_getElem? (i := 102) rfl) rfl)
theorem sc_yJ7_copyOf_59c91 : Cond.static yJ7_copyOf_59c91 ∈ ab_tb := (ab_t2 (List.mem_of_getElem? (i := 108) rfl) rfl)
theorem im_yX8_isWithin : Cond.instanceMethod yX8_isWithin ∈ ab_tb := (ab_t2 (List.mem_of_getElem? (i := 123) rfl) rfl)
theorem se_yX8_isWithin : Cond.selects yX8_isWithin.cls yX8_isWithin yX8_isWithin ∈ ab_tb := (ab_tp (List.mem_of_getElem? (i := 6) rfl) rfl)
theorem im_yX8_passes : Cond.instanceMethod yX8_passes ∈ ab_tb := (ab_t2 (List.mem_of_getElem? (i := 127) rfl) rfl)
theorem se_yX8_passes : Cond.selects yX8_passes.cls yX8_passes yX8_passes ∈ ab_tb := (ab_tp (List.mem_of_getElem? (i := 7) rfl) rfl)
theorem im_yJx4a65c_add_9ea2d : Cond.instanceMethod yJx4a65c_add_9ea2d ∈ ab_tb := (ab_t2 (List.mem_of_getElem? (i := 154) rfl) rfl)
theorem se_yJx4a65c_add_9ea2d : Cond.selects yJx4a65c_add_9ea2d.cls yJx4a65c_add_9ea2d yJx4a65c_add_9ea2d ∈ ab_tb := (ab_t2 (List.mem_of_getElem? (i := 155) rfl) rfl)
theorem im_yJx4a65c_add_72be8 : Cond.instanceMethod yJx4a65c_add_72be8 ∈ ab_tb := (ab_t2 (List.mem_of_getElem? (i := 159) rfl) rfl)
theorem se_yJx4a65c_add_72be8 : Cond.selects yJx4a65c_add_72be8.cls yJx4a65c_add_72be8 yJx4a65c_add_72be8 ∈ ab_tb := (ab_tp (List.mem_of_getElem? (i := 8) rfl) rfl)
theorem im_yJx4a65c_grow_d5877 : Cond.instanceMethod yJx4a65c_grow_d5877 ∈ ab_tb := (ab_t2 (List.mem_of_getElem? (i := 163) rfl) rfl)
theorem se_yJx4a65c_grow_d5877 : Cond.selects yJx4a65c_grow_d5877.cls yJx4a65c_grow_d5877 yJx4a65c_grow_d5877 ∈ ab_tb := (ab_tp (List.mem_of_getElem? (i := 9) rfl) rfl)
theorem im_yJx4a65c_grow_92f84 : Cond.instanceMethod yJx4a65c_grow_92f84 ∈ ab_tb := (ab_t2 (List.mem_of_getElem? (i := 167) rfl) rfl)
theorem se_yJx4a65c_grow_92f84 : Cond.selects yJx4a65c_grow_92f84.cls yJx4a65c_grow_92f84 yJx4a65c_grow_92f84 ∈ ab_tb := (ab_tp (List.mem_of_getElem? (i := 10) rfl) rfl)
theorem sc_yJ8_newLength_cabcc : Cond.static yJ8_newLength_cabcc ∈ ab_tb := (ab_t2 (List.mem_of_getElem? (i := 170) rfl) rfl)
theorem sc_yJ8_hugeLength_7cf53 : Cond.static yJ8_hugeLength_7cf53 ∈ ab_tb := (ab_t2 (List.mem_of_getElem? (i := 175) rfl) rfl)
theorem sc_yJ7_copyOf_1904c : Cond.static yJ7_copyOf_1904c ∈ ab_tb := (ab_t2 (List.mem_of_getElem? (i := 178) rfl) rfl)
theorem sc_yJ7_copyOf_6403c : Cond.static yJ7_copyOf_6403c ∈ ab_tb := (ab_t2 (List.mem_of_getElem? (i := 202) rfl) rfl)
theorem im_yX9_fault : Cond.instanceMethod yX9_fault ∈ ab_tb := (ab_t2 (List.mem_of_getElem? (i := 210) rfl) rfl)
theorem se_yX9_fault : Cond.selects yX9_fault.cls yX9_fault yX9_fault ∈ ab_tb := (ab_t2 (List.mem_of_getElem? (i := 211) rfl) rfl)
theorem im_yX9_taped : Cond.instanceMethod yX9_taped ∈ ab_tb := (ab_t2 (List.mem_of_getElem? (i := 214) rfl) rfl)
theorem se_yX9_taped : Cond.selects yX9_taped.cls yX9_taped yX9_taped ∈ ab_tb := (ab_t2 (List.mem_of_getElem? (i := 215) rfl) rfl)
theorem im_yX9_flight : Cond.instanceMethod yX9_flight ∈ ab_tb := (ab_t2 (List.mem_of_getElem? (i := 218) rfl) rfl)
theorem se_yX9_flight : Cond.selects yX9_flight.cls yX9_flight yX9_flight ∈ ab_tb := (ab_t2 (List.mem_of_getElem? (i := 219) rfl) rfl)
theorem im_yX2_most : Cond.instanceMethod yX2_most ∈ ab_tb := (ab_t2 (List.mem_of_getElem? (i := 222) rfl) rfl)
theorem se_yX2_most : Cond.selects yX2_most.cls yX2_most yX2_most ∈ ab_tb := (ab_t2 (List.mem_of_getElem? (i := 223) rfl) rfl)
theorem im_yX2_bestBefore : Cond.instanceMethod yX2_bestBefore ∈ ab_tb := (ab_t2 (List.mem_of_getElem? (i := 229) rfl) rfl)
theorem se_yX2_bestBefore : Cond.selects yX2_bestBefore.cls yX2_bestBefore yX2_bestBefore ∈ ab_tb := (ab_tp (List.mem_of_getElem? (i := 11) rfl) rfl)
theorem im_yX9_count : Cond.instanceMethod yX9_count ∈ ab_tb := (ab_t2 (List.mem_of_getElem? (i := 233) rfl) rfl)
theorem se_yX9_count : Cond.selects yX9_count.cls yX9_count yX9_count ∈ ab_tb := (ab_t2 (List.mem_of_getElem? (i := 234) rfl) rfl)
theorem im_yX9_bergsLeft : Cond.instanceMethod yX9_bergsLeft ∈ ab_tb := (ab_t2 (List.mem_of_getElem? (i := 238) rfl) rfl)
theorem se_yX9_bergsLeft : Cond.selects yX9_bergsLeft.cls yX9_bergsLeft yX9_bergsLeft ∈ ab_tb := (ab_tp (List.mem_of_getElem? (i := 12) rfl) rfl)
theorem im_yX9_warningsHolding : Cond.instanceMethod yX9_warningsHolding ∈ ab_tb := (ab_t3 (List.mem_of_getElem? (i := 2) rfl) rfl)
theorem se_yX9_warningsHolding : Cond.selects yX9_warningsHolding.cls yX9_warningsHolding yX9_warningsHolding ∈ ab_tb := (ab_tp (List.mem_of_getElem? (i := 13) rfl) rfl)
theorem im_yX8_holdsAt : Cond.instanceMethod yX8_holdsAt ∈ ab_tb := (ab_t3 (List.mem_of_getElem? (i := 5) rfl) rfl)
theorem se_yX8_holdsAt : Cond.selects yX8_holdsAt.cls yX8_holdsAt yX8_holdsAt ∈ ab_tb := (ab_t3 (List.mem_of_getElem? (i := 6) rfl) rfl)
theorem sc_yX9_squaresAboveZero : Cond.static yX9_squaresAboveZero ∈ ab_tb := (ab_t3 (List.mem_of_getElem? (i := 9) rfl) rfl)
theorem im_yX9_water : Cond.instanceMethod yX9_water ∈ ab_tb := (ab_t3 (List.mem_of_getElem? (i := 17) rfl) rfl)
theorem se_yX9_water : Cond.selects yX9_water.cls yX9_water yX9_water ∈ ab_tb := (ab_t3 (List.mem_of_getElem? (i := 18) rfl) rfl)
theorem sc_yX9_checkSquare : Cond.static yX9_checkSquare ∈ ab_tb := (ab_t3 (List.mem_of_getElem? (i := 21) rfl) rfl)
theorem sc_yX9_isCurrent : Cond.static yX9_isCurrent ∈ ab_tb := (ab_t3 (List.mem_of_getElem? (i := 94) rfl) rfl)
theorem im_yX9_land : Cond.instanceMethod yX9_land ∈ ab_tb := (ab_t3 (List.mem_of_getElem? (i := 117) rfl) rfl)
theorem se_yX9_land : Cond.selects yX9_land.cls yX9_land yX9_land ∈ ab_tb := (ab_t3 (List.mem_of_getElem? (i := 118) rfl) rfl)
theorem im_yX9_someBergMayBe : Cond.instanceMethod yX9_someBergMayBe ∈ ab_tb := (ab_t3 (List.mem_of_getElem? (i := 122) rfl) rfl)
theorem se_yX9_someBergMayBe : Cond.selects yX9_someBergMayBe.cls yX9_someBergMayBe yX9_someBergMayBe ∈ ab_tb := (ab_tp (List.mem_of_getElem? (i := 15) rfl) rfl)
theorem im_yX9_tell : Cond.instanceMethod yX9_tell ∈ ab_tb := (ab_t3 (List.mem_of_getElem? (i := 145) rfl) rfl)
theorem se_yX9_tell : Cond.selects yX9_tell.cls yX9_tell yX9_tell ∈ ab_tb := (ab_t3 (List.mem_of_getElem? (i := 146) rfl) rfl)
theorem im_yX9_bergToJoin : Cond.instanceMethod yX9_bergToJoin ∈ ab_tb := (ab_t3 (List.mem_of_getElem? (i := 151) rfl) rfl)
theorem se_yX9_bergToJoin : Cond.selects yX9_bergToJoin.cls yX9_bergToJoin yX9_bergToJoin ∈ ab_tb := (ab_tp (List.mem_of_getElem? (i := 16) rfl) rfl)
theorem im_yX0_init : Cond.instanceMethod yX0_init ∈ ab_tb := (ab_t3 (List.mem_of_getElem? (i := 171) rfl) rfl)
theorem im_yX0_setAt : Cond.instanceMethod yX0_setAt ∈ ab_tb := (ab_t3 (List.mem_of_getElem? (i := 196) rfl) rfl)
theorem se_yX0_setAt : Cond.selects yX0_setAt.cls yX0_setAt yX0_setAt ∈ ab_tb := (ab_t3 (List.mem_of_getElem? (i := 197) rfl) rfl)
theorem im_yX9_step : Cond.instanceMethod yX9_step ∈ ab_tb := (ab_t3 (List.mem_of_getElem? (i := 205) rfl) rfl)
theorem se_yX9_step : Cond.selects yX9_step.cls yX9_step yX9_step ∈ ab_tb := (ab_t3 (List.mem_of_getElem? (i := 206) rfl) rfl)
theorem im_yX0_goOn : Cond.instanceMethod yX0_goOn ∈ ab_tb := (ab_t3 (List.mem_of_getElem? (i := 210) rfl) rfl)
theorem se_yX0_goOn : Cond.selects yX0_goOn.cls yX0_goOn yX0_goOn ∈ ab_tb := (ab_t3 (List.mem_of_getElem? (i := 211) rfl) rfl)
theorem im_yX0_drift : Cond.instanceMethod yX0_drift ∈ ab_tb := (ab_t3 (List.mem_of_getElem? (i := 215) rfl) rfl)
theorem se_yX0_drift : Cond.selects yX0_drift.cls yX0_drift yX0_drift ∈ ab_tb := (ab_tp (List.mem_of_getElem? (i := 17) rfl) rfl)
theorem im_yX0_spread : Cond.instanceMethod yX0_spread ∈ ab_tb := (ab_t3 (List.mem_of_getElem? (i := 222) rfl) rfl)
theorem se_yX0_spread : Cond.selects yX0_spread.cls yX0_spread yX0_spread ∈ ab_tb := (ab_tp (List.mem_of_getElem? (i := 18) rfl) rfl)
theorem im_yX0_giveToSides : Cond.instanceMethod yX0_giveToSides ∈ ab_tb := (ab_t3 (List.mem_of_getElem? (i := 226) rfl) rfl)
theorem se_yX0_giveToSides : Cond.selects yX0_giveToSides.cls yX0_giveToSides yX0_giveToSides ∈ ab_tb := (ab_tp (List.mem_of_getElem? (i := 19) rfl) rfl)
theorem im_yX0_melt : Cond.instanceMethod yX0_melt ∈ ab_tb := (ab_t3 (List.mem_of_getElem? (i := 234) rfl) rfl)
theorem se_yX0_melt : Cond.selects yX0_melt.cls yX0_melt yX0_melt ∈ ab_tb := (ab_tp (List.mem_of_getElem? (i := 20) rfl) rfl)
theorem im_yX9_look : Cond.instanceMethod yX9_look ∈ ab_tb := (ab_t4 (List.mem_of_getElem? (i := 0) rfl) rfl)
theorem se_yX9_look : Cond.selects yX9_look.cls yX9_look yX9_look ∈ ab_tb := (ab_t4 (List.mem_of_getElem? (i := 1) rfl) rfl)
theorem im_yX0_lower : Cond.instanceMethod yX0_lower ∈ ab_tb := (ab_t4 (List.mem_of_getElem? (i := 5) rfl) rfl)
theorem se_yX0_lower : Cond.selects yX0_lower.cls yX0_lower yX0_lower ∈ ab_tb := (ab_t4 (List.mem_of_getElem? (i := 6) rfl) rfl)
theorem im_yX0_allParts : Cond.instanceMethod yX0_allParts ∈ ab_tb := (ab_t4 (List.mem_of_getElem? (i := 9) rfl) rfl)
theorem se_yX0_allParts : Cond.selects yX0_allParts.cls yX0_allParts yX0_allParts ∈ ab_tb := (ab_t4 (List.mem_of_getElem? (i := 10) rfl) rfl)
theorem im_yX9_parts : Cond.instanceMethod yX9_parts ∈ ab_tb := (ab_t4 (List.mem_of_getElem? (i := 16) rfl) rfl)
theorem se_yX9_parts : Cond.selects yX9_parts.cls yX9_parts yX9_parts ∈ ab_tb := (ab_t4 (List.mem_of_getElem? (i := 17) rfl) rfl)
theorem im_yX9_checkBerg : Cond.instanceMethod yX9_checkBerg ∈ ab_tb := (ab_t4 (List.mem_of_getElem? (i := 21) rfl) rfl)
theorem se_yX9_checkBerg : Cond.selects yX9_checkBerg.cls yX9_checkBerg yX9_checkBerg ∈ ab_tb := (ab_tp (List.mem_of_getElem? (i := 21) rfl) rfl)
theorem im_yX9_berg : Cond.instanceMethod yX9_berg ∈ ab_tb := (ab_t4 (List.mem_of_getElem? (i := 29) rfl) rfl)
theorem se_yX9_berg : Cond.selects yX9_berg.cls yX9_berg yX9_berg ∈ ab_tb := (ab_t4 (List.mem_of_getElem? (i := 30) rfl) rfl)
theorem im_yX9_read : Cond.instanceMethod yX9_read ∈ ab_tb := (ab_t4 (List.mem_of_getElem? (i := 53) rfl) rfl)
theorem se_yX9_read : Cond.selects yX9_read.cls yX9_read yX9_read ∈ ab_tb := (ab_t4 (List.mem_of_getElem? (i := 54) rfl) rfl)
theorem im_yX7_findFirstWrong : Cond.instanceMethod yX7_findFirstWrong ∈ ab_tb := (ab_t4 (List.mem_of_getElem? (i := 57) rfl) rfl)
theorem se_yX7_findFirstWrong : Cond.selects yX7_findFirstWrong.cls yX7_findFirstWrong yX7_findFirstWrong ∈ ab_tb := (ab_t4 (List.mem_of_getElem? (i := 58) rfl) rfl)
theorem im_yX7_takeWord : Cond.instanceMethod yX7_takeWord ∈ ab_tb := (ab_t4 (List.mem_of_getElem? (i := 63) rfl) rfl)
theorem se_yX7_takeWord : Cond.selects yX7_takeWord.cls yX7_takeWord yX7_takeWord ∈ ab_tb := (ab_tp (List.mem_of_getElem? (i := 22) rfl) rfl)
theorem im_yX7_skipBlanks : Cond.instanceMethod yX7_skipBlanks ∈ ab_tb := (ab_t4 (List.mem_of_getElem? (i := 67) rfl) rfl)
theorem se_yX7_skipBlanks : Cond.selects yX7_skipBlanks.cls yX7_skipBlanks yX7_skipBlanks ∈ ab_tb := (ab_tp (List.mem_of_getElem? (i := 23) rfl) rfl)
theorem im_yX7_here : Cond.instanceMethod yX7_here ∈ ab_tb := (ab_t4 (List.mem_of_getElem? (i := 71) rfl) rfl)
theorem se_yX7_here : Cond.selects yX7_here.cls yX7_here yX7_here ∈ ab_tb := (ab_tp (List.mem_of_getElem? (i := 24) rfl) rfl)
theorem sc_yX7_isLetter : Cond.static yX7_isLetter ∈ ab_tb := (ab_t4 (List.mem_of_getElem? (i := 74) rfl) rfl)
theorem im_yJ0_length_8abf5 : Cond.instanceMethod yJ0_length_8abf5 ∈ ab_tb := (ab_t4 (List.mem_of_getElem? (i := 77) rfl) rfl)
theorem se_yJ0_length_8abf5 : Cond.selects yJ0_length_8abf5.cls yJ0_length_8abf5 yJ0_length_8abf5 ∈ ab_tb := (ab_t4 (List.mem_of_getElem? (i := 78) rfl) rfl)
theorem im_yJ0_coder_7d493 : Cond.instanceMethod yJ0_coder_7d493 ∈ ab_tb := (ab_t4 (List.mem_of_getElem? (i := 81) rfl) rfl)
theorem se_yJ0_coder_7d493 : Cond.selects yJ0_coder_7d493.cls yJ0_coder_7d493 yJ0_coder_7d493 ∈ ab_tb := (ab_t4 (List.mem_of_getElem? (i := 82) rfl) rfl)
theorem im_yJ0_charAt_5068e : Cond.instanceMethod yJ0_charAt_5068e ∈ ab_tb := (ab_t4 (List.mem_of_getElem? (i := 87) rfl) rfl)
theorem se_yJ0_charAt_5068e : Cond.selects yJ0_charAt_5068e.cls yJ0_charAt_5068e yJ0_charAt_5068e ∈ ab_tb := (ab_t4 (List.mem_of_getElem? (i := 88) rfl) rfl)
theorem im_yJ0_isLatin1_aae02 : Cond.instanceMethod yJ0_isLatin1_aae02 ∈ ab_tb := (ab_t4 (List.mem_of_getElem? (i := 91) rfl) rfl)
theorem se_yJ0_isLatin1_aae02 : Cond.selects yJ0_isLatin1_aae02.cls yJ0_isLatin1_aae02 yJ0_isLatin1_aae02 ∈ ab_tb := (ab_t4 (List.mem_of_getElem? (i := 92) rfl) rfl)
theorem sc_yJ1_charAt_3b067 : Cond.static yJ1_charAt_3b067 ∈ ab_tb := (ab_t4 (List.mem_of_getElem? (i := 95) rfl) rfl)
theorem sc_yJ0_checkIndex_df160 : Cond.static yJ0_checkIndex_df160 ∈ ab_tb := (ab_t4 (List.mem_of_getElem? (i := 98) rfl) rfl)
theorem sc_yJ2_charAt_3b067 : Cond.static yJ2_charAt_3b067 ∈ ab_tb := (ab_t4 (List.mem_of_getElem? (i := 104) rfl) rfl)
theorem sc_yJ2_checkIndex_2214a : Cond.static yJ2_checkIndex_2214a ∈ ab_tb := (ab_t4 (List.mem_of_getElem? (i := 107) rfl) rfl)
theorem sc_yJ2_length_9d52b : Cond.static yJ2_length_9d52b ∈ ab_tb := (ab_t4 (List.mem_of_getElem? (i := 110) rfl) rfl)
theorem sc_yJ2_getChar_3b067 : Cond.static yJ2_getChar_3b067 ∈ ab_tb := (ab_t4 (List.mem_of_getElem? (i := 114) rfl) rfl)
theorem im_yX7_takeCorners : Cond.instanceMethod yX7_takeCorners ∈ ab_tb := (ab_t4 (List.mem_of_getElem? (i := 124) rfl) rfl)
theorem se_yX7_takeCorners : Cond.selects yX7_takeCorners.cls yX7_takeCorners yX7_takeCorners ∈ ab_tb := (ab_tp (List.mem_of_getElem? (i := 25) rfl) rfl)
theorem im_yX7_takeCorner : Cond.instanceMethod yX7_takeCorner ∈ ab_tb := (ab_t4 (List.mem_of_getElem? (i := 128) rfl) rfl)
theorem se_yX7_takeCorner : Cond.selects yX7_takeCorner.cls yX7_takeCorner yX7_takeCorner ∈ ab_tb := (ab_tp (List.mem_of_getElem? (i := 26) rfl) rfl)
theorem im_yX7_takeNumber : Cond.instanceMethod yX7_takeNumber ∈ ab_tb := (ab_t4 (List.mem_of_getElem? (i := 132) rfl) rfl)
theorem se_yX7_takeNumber : Cond.selects yX7_takeNumber.cls yX7_takeNumber yX7_takeNumber ∈ ab_tb := (ab_tp (List.mem_of_getElem? (i := 27) rfl) rfl)
theorem sc_yX7_isDigit : Cond.static yX7_isDigit ∈ ab_tb := (ab_t4 (List.mem_of_getElem? (i := 135) rfl) rfl)
theorem im_yX9_cancel : Cond.instanceMethod yX9_cancel ∈ ab_tb := (ab_t4 (List.mem_of_getElem? (i := 145) rfl) rfl)
theorem se_yX9_cancel : Cond.selects yX9_cancel.cls yX9_cancel yX9_cancel ∈ ab_tb := (ab_t4 (List.mem_of_getElem? (i := 146) rfl) rfl)
theorem im_yX9_checkWarning : Cond.instanceMethod yX9_checkWarning ∈ ab_tb := (ab_t4 (List.mem_of_getElem? (i := 150) rfl) rfl)
theorem se_yX9_checkWarning : Cond.selects yX9_checkWarning.cls yX9_checkWarning yX9_checkWarning ∈ ab_tb := (ab_tp (List.mem_of_getElem? (i := 28) rfl) rfl)
theorem im_yX9_force : Cond.instanceMethod yX9_force ∈ ab_tb := (ab_t4 (List.mem_of_getElem? (i := 157) rfl) rfl)
theorem se_yX9_force : Cond.selects yX9_force.cls yX9_force yX9_force ∈ ab_tb := (ab_t4 (List.mem_of_getElem? (i := 158) rfl) rfl)
theorem im_yX9_write : Cond.instanceMethod yX9_write ∈ ab_tb := (ab_t4 (List.mem_of_getElem? (i := 164) rfl) rfl)
theorem se_yX9_write : Cond.selects yX9_write.cls yX9_write yX9_write ∈ ab_tb := (ab_t4 (List.mem_of_getElem? (i := 165) rfl) rfl)
theorem im_yX6_putWord : Cond.instanceMethod yX6_putWord ∈ ab_tb := (ab_t4 (List.mem_of_getElem? (i := 169) rfl) rfl)
theorem se_yX6_putWord : Cond.selects yX6_putWord.cls yX6_putWord yX6_putWord ∈ ab_tb := (ab_t4 (List.mem_of_getElem? (i := 170) rfl) rfl)
theorem im_yX6_putNumber : Cond.instanceMethod yX6_putNumber ∈ ab_tb := (ab_t4 (List.mem_of_getElem? (i := 176) rfl) rfl)
theorem se_yX6_putNumber : Cond.selects yX6_putNumber.cls yX6_putNumber yX6_putNumber ∈ ab_tb := (ab_t4 (List.mem_of_getElem? (i := 177) rfl) rfl)
theorem im_yX9_way : Cond.instanceMethod yX9_way ∈ ab_tb := (ab_t4 (List.mem_of_getElem? (i := 184) rfl) rfl)
theorem se_yX9_way : Cond.selects yX9_way.cls yX9_way yX9_way ∈ ab_tb := (ab_t4 (List.mem_of_getElem? (i := 185) rfl) rfl)
theorem im_yX1_openAllBut : Cond.instanceMethod yX1_openAllBut ∈ ab_tb := (ab_t4 (List.mem_of_getElem? (i := 188) rfl) rfl)
theorem se_yX1_openAllBut : Cond.selects yX1_openAllBut.cls yX1_openAllBut yX1_openAllBut ∈ ab_tb := (ab_t4 (List.mem_of_getElem? (i := 189) rfl) rfl)
theorem im_yX1_shut : Cond.instanceMethod yX1_shut ∈ ab_tb := (ab_t4 (List.mem_of_getElem? (i := 192) rfl) rfl)
theorem se_yX1_shut : Cond.selects yX1_shut.cls yX1_shut yX1_shut ∈ ab_tb := (ab_t4 (List.mem_of_getElem? (i := 193) rfl) rfl)
theorem im_yX1_shortest : Cond.instanceMethod yX1_shortest ∈ ab_tb := (ab_t4 (List.mem_of_getElem? (i := 196) rfl) rfl)
theorem se_yX1_shortest : Cond.selects yX1_shortest.cls yX1_shortest yX1_shortest ∈ ab_tb := (ab_t4 (List.mem_of_getElem? (i := 197) rfl) rfl)
theorem im_yX1_isShut : Cond.instanceMethod yX1_isShut ∈ ab_tb := (ab_t4 (List.mem_of_getElem? (i := 201) rfl) rfl)
theorem se_yX1_isShut : Cond.selects yX1_isShut.cls yX1_isShut yX1_isShut ∈ ab_tb := (ab_tp (List.mem_of_getElem? (i := 29) rfl) rfl)
theorem im_yX1_meet : Cond.instanceMethod yX1_meet ∈ ab_tb := (ab_t4 (List.mem_of_getElem? (i := 206) rfl) rfl)
theorem se_yX1_meet : Cond.selects yX1_meet.cls yX1_meet yX1_meet ∈ ab_tb := (ab_tp (List.mem_of_getElem? (i := 30) rfl) rfl)
theorem im_yX1_takeNearest : Cond.instanceMethod yX1_takeNearest ∈ ab_tb := (ab_t4 (List.mem_of_getElem? (i := 210) rfl) rfl)
theorem se_yX1_takeNearest : Cond.selects yX1_takeNearest.cls yX1_takeNearest yX1_takeNearest ∈ ab_tb := (ab_tp (List.mem_of_getElem? (i := 31) rfl) rfl)
theorem im_yX1_follow : Cond.instanceMethod yX1_follow ∈ ab_tb := (ab_t4 (List.mem_of_getElem? (i := 214) rfl) rfl)
theorem se_yX1_follow : Cond.selects yX1_follow.cls yX1_follow yX1_follow ∈ ab_tb := (ab_tp (List.mem_of_getElem? (i := 32) rfl) rfl)
theorem im_yX10_thrown : Cond.instanceMethod yX10_thrown ∈ ab_tb := (ab_t4 (List.mem_of_getElem? (i := 220) rfl) rfl)
theorem se_yX10_thrown : Cond.selects yX10_thrown.cls yX10_thrown yX10_thrown ∈ ab_tb := (ab_t4 (List.mem_of_getElem? (i := 221) rfl) rfl)
theorem im_yX10_init : Cond.instanceMethod yX10_init ∈ ab_tb := (ab_t4 (List.mem_of_getElem? (i := 226) rfl) rfl)
theorem im_yX10_water : Cond.instanceMethod yX10_water ∈ ab_tb := (ab_t5 (List.mem_of_getElem? (i := 105) rfl) rfl)
theorem se_yX10_water : Cond.selects yX10_water.cls yX10_water yX10_water ∈ ab_tb := (ab_t5 (List.mem_of_getElem? (i := 106) rfl) rfl)
theorem sc_yX10_noSquare : Cond.static yX10_noSquare ∈ ab_tb := (ab_t5 (List.mem_of_getElem? (i := 109) rfl) rfl)
theorem sc_yX10_in : Cond.static yX10_in ∈ ab_tb := (ab_t5 (List.mem_of_getElem? (i := 112) rfl) rfl)
theorem im_yX10_throwsIf : Cond.instanceMethod yX10_throwsIf ∈ ab_tb := (ab_t5 (List.mem_of_getElem? (i := 116) rfl) rfl)
theorem se_yX10_throwsIf : Cond.selects yX10_throwsIf.cls yX10_throwsIf yX10_throwsIf ∈ ab_tb := (ab_tp (List.mem_of_getElem? (i := 33) rfl) rfl)
theorem im_yX10_land : Cond.instanceMethod yX10_land ∈ ab_tb := (ab_t5 (List.mem_of_getElem? (i := 119) rfl) rfl)
theorem se_yX10_land : Cond.selects yX10_land.cls yX10_land yX10_land ∈ ab_tb := (ab_t5 (List.mem_of_getElem? (i := 120) rfl) rfl)
theorem im_yX10_mayBe : Cond.instanceMethod yX10_mayBe ∈ ab_tb := (ab_t5 (List.mem_of_getElem? (i := 124) rfl) rfl)
theorem se_yX10_mayBe : Cond.selects yX10_mayBe.cls yX10_mayBe yX10_mayBe ∈ ab_tb := (ab_tp (List.mem_of_getElem? (i := 34) rfl) rfl)
theorem im_yX10_tell : Cond.instanceMethod yX10_tell ∈ ab_tb := (ab_t5 (List.mem_of_getElem? (i := 127) rfl) rfl)
theorem se_yX10_tell : Cond.selects yX10_tell.cls yX10_tell yX10_tell ∈ ab_tb := (ab_t5 (List.mem_of_getElem? (i := 128) rfl) rfl)
theorem im_yX10_puts : Cond.instanceMethod yX10_puts ∈ ab_tb := (ab_t5 (List.mem_of_getElem? (i := 132) rfl) rfl)
theorem se_yX10_puts : Cond.selects yX10_puts.cls yX10_puts yX10_puts ∈ ab_tb := (ab_tp (List.mem_of_getElem? (i := 35) rfl) rfl)
theorem im_yX10_step : Cond.instanceMethod yX10_step ∈ ab_tb := (ab_t5 (List.mem_of_getElem? (i := 136) rfl) rfl)
theorem se_yX10_step : Cond.selects yX10_step.cls yX10_step yX10_step ∈ ab_tb := (ab_t5 (List.mem_of_getElem? (i := 137) rfl) rfl)
theorem im_yX10_drifts : Cond.instanceMethod yX10_drifts ∈ ab_tb := (ab_t5 (List.mem_of_getElem? (i := 141) rfl) rfl)
theorem se_yX10_drifts : Cond.selects yX10_drifts.cls yX10_drifts yX10_drifts ∈ ab_tb := (ab_tp (List.mem_of_getElem? (i := 36) rfl) rfl)
theorem sc_yX10_isSea : Cond.static yX10_isSea ∈ ab_tb := (ab_t5 (List.mem_of_getElem? (i := 144) rfl) rfl)
theorem im_yX10_spreads : Cond.instanceMethod yX10_spreads ∈ ab_tb := (ab_t5 (List.mem_of_getElem? (i := 148) rfl) rfl)
theorem se_yX10_spreads : Cond.selects yX10_spreads.cls yX10_spreads yX10_spreads ∈ ab_tb := (ab_tp (List.mem_of_getElem? (i := 37) rfl) rfl)
theorem im_yX10_melts : Cond.instanceMethod yX10_melts ∈ ab_tb := (ab_t5 (List.mem_of_getElem? (i := 152) rfl) rfl)
theorem se_yX10_melts : Cond.selects yX10_melts.cls yX10_melts yX10_melts ∈ ab_tb := (ab_tp (List.mem_of_getElem? (i := 38) rfl) rfl)
theorem im_yX10_goes : Cond.instanceMethod yX10_goes ∈ ab_tb := (ab_t5 (List.mem_of_getElem? (i := 157) rfl) rfl)
theorem se_yX10_goes : Cond.selects yX10_goes.cls yX10_goes yX10_goes ∈ ab_tb := (ab_tp (List.mem_of_getElem? (i := 39) rfl) rfl)
theorem im_yX10_look : Cond.instanceMethod yX10_look ∈ ab_tb := (ab_t5 (List.mem_of_getElem? (i := 160) rfl) rfl)
theorem se_yX10_look : Cond.selects yX10_look.cls yX10_look yX10_look ∈ ab_tb := (ab_t5 (List.mem_of_getElem? (i := 161) rfl) rfl)
theorem im_yX10_squares : Cond.instanceMethod yX10_squares ∈ ab_tb := (ab_t5 (List.mem_of_getElem? (i := 165) rfl) rfl)
theorem se_yX10_squares : Cond.selects yX10_squares.cls yX10_squares yX10_squares ∈ ab_tb := (ab_tp (List.mem_of_getElem? (i := 40) rfl) rfl)
theorem im_yX10_parts : Cond.instanceMethod yX10_parts ∈ ab_tb := (ab_t5 (List.mem_of_getElem? (i := 168) rfl) rfl)
theorem se_yX10_parts : Cond.selects yX10_parts.cls yX10_parts yX10_parts ∈ ab_tb := (ab_t5 (List.mem_of_getElem? (i := 169) rfl) rfl)
theorem im_yX10_noBerg : Cond.instanceMethod yX10_noBerg ∈ ab_tb := (ab_t5 (List.mem_of_getElem? (i := 173) rfl) rfl)
theorem se_yX10_noBerg : Cond.selects yX10_noBerg.cls yX10_noBerg yX10_noBerg ∈ ab_tb := (ab_tp (List.mem_of_getElem? (i := 41) rfl) rfl)
theorem im_yX10_berg : Cond.instanceMethod yX10_berg ∈ ab_tb := (ab_t5 (List.mem_of_getElem? (i := 176) rfl) rfl)
theorem se_yX10_berg : Cond.selects yX10_berg.cls yX10_berg yX10_berg ∈ ab_tb := (ab_t5 (List.mem_of_getElem? (i := 177) rfl) rfl)
theorem im_yX10_limit : Cond.instanceMethod yX10_limit ∈ ab_tb := (ab_t5 (List.mem_of_getElem? (i := 180) rfl) rfl)
theorem se_yX10_limit : Cond.selects yX10_limit.cls yX10_limit yX10_limit ∈ ab_tb := (ab_t5 (List.mem_of_getElem? (i := 181) rfl) rfl)
theorem im_yX10_limits : Cond.instanceMethod yX10_limits ∈ ab_tb := (ab_t5 (List.mem_of_getElem? (i := 185) rfl) rfl)
theorem se_yX10_limits : Cond.selects yX10_limits.cls yX10_limits yX10_limits ∈ ab_tb := (ab_tp (List.mem_of_getElem? (i := 42) rfl) rfl)
theorem im_yX10_isMore : Cond.instanceMethod yX10_isMore ∈ ab_tb := (ab_t5 (List.mem_of_getElem? (i := 189) rfl) rfl)
theorem se_yX10_isMore : Cond.selects yX10_isMore.cls yX10_isMore yX10_isMore ∈ ab_tb := (ab_tp (List.mem_of_getElem? (i := 43) rfl) rfl)
theorem sc_yX10_side : Cond.static yX10_side ∈ ab_tb := (ab_t5 (List.mem_of_getElem? (i := 192) rfl) rfl)
theorem sc_yJ9_abs_0f7a4 : Cond.static yJ9_abs_0f7a4 ∈ ab_tb := (ab_t5 (List.mem_of_getElem? (i := 195) rfl) rfl)
theorem im_yX10_corner : Cond.instanceMethod yX10_corner ∈ ab_tb := (ab_t5 (List.mem_of_getElem? (i := 198) rfl) rfl)
theorem se_yX10_corner : Cond.selects yX10_corner.cls yX10_corner yX10_corner ∈ ab_tb := (ab_t5 (List.mem_of_getElem? (i := 199) rfl) rfl)
theorem im_yX10_warn : Cond.instanceMethod yX10_warn ∈ ab_tb := (ab_t5 (List.mem_of_getElem? (i := 202) rfl) rfl)
theorem se_yX10_warn : Cond.selects yX10_warn.cls yX10_warn yX10_warn ∈ ab_tb := (ab_t5 (List.mem_of_getElem? (i := 203) rfl) rfl)
theorem im_yX10_takes : Cond.instanceMethod yX10_takes ∈ ab_tb := (ab_t5 (List.mem_of_getElem? (i := 207) rfl) rfl)
theorem se_yX10_takes : Cond.selects yX10_takes.cls yX10_takes yX10_takes ∈ ab_tb := (ab_tp (List.mem_of_getElem? (i := 44) rfl) rfl)
theorem im_yX10_feed : Cond.instanceMethod yX10_feed ∈ ab_tb := (ab_t5 (List.mem_of_getElem? (i := 210) rfl) rfl)
theorem se_yX10_feed : Cond.selects yX10_feed.cls yX10_feed yX10_feed ∈ ab_tb := (ab_t5 (List.mem_of_getElem? (i := 211) rfl) rfl)
theorem im_yX10_end : Cond.instanceMethod yX10_end ∈ ab_tb := (ab_t5 (List.mem_of_getElem? (i := 214) rfl) rfl)
theorem se_yX10_end : Cond.selects yX10_end.cls yX10_end yX10_end ∈ ab_tb := (ab_t5 (List.mem_of_getElem? (i := 215) rfl) rfl)
theorem im_yX10_read : Cond.instanceMethod yX10_read ∈ ab_tb := (ab_t5 (List.mem_of_getElem? (i := 218) rfl) rfl)
theorem se_yX10_read : Cond.selects yX10_read.cls yX10_read yX10_read ∈ ab_tb := (ab_t5 (List.mem_of_getElem? (i := 219) rfl) rfl)
theorem im_yX10_readRing : Cond.instanceMethod yX10_readRing ∈ ab_tb := (ab_t5 (List.mem_of_getElem? (i := 223) rfl) rfl)
theorem se_yX10_readRing : Cond.selects yX10_readRing.cls yX10_readRing yX10_readRing ∈ ab_tb := (ab_tp (List.mem_of_getElem? (i := 45) rfl) rfl)
theorem im_yX10_readWord : Cond.instanceMethod yX10_readWord ∈ ab_tb := (ab_t5 (List.mem_of_getElem? (i := 228) rfl) rfl)
theorem se_yX10_readWord : Cond.selects yX10_readWord.cls yX10_readWord yX10_readWord ∈ ab_tb := (ab_tp (List.mem_of_getElem? (i := 46) rfl) rfl)
theorem im_yX10_blanks : Cond.instanceMethod yX10_blanks ∈ ab_tb := (ab_t5 (List.mem_of_getElem? (i := 232) rfl) rfl)
theorem se_yX10_blanks : Cond.selects yX10_blanks.cls yX10_blanks yX10_blanks ∈ ab_tb := (ab_tp (List.mem_of_getElem? (i := 47) rfl) rfl)
theorem im_yX10_isAt : Cond.instanceMethod yX10_isAt ∈ ab_tb := (ab_t5 (List.mem_of_getElem? (i := 236) rfl) rfl)
theorem se_yX10_isAt : Cond.selects yX10_isAt.cls yX10_isAt yX10_isAt ∈ ab_tb := (ab_tp (List.mem_of_getElem? (i := 48) rfl) rfl)
theorem im_yX10_readNumber : Cond.instanceMethod yX10_readNumber ∈ ab_tb := (ab_t6 (List.mem_of_getElem? (i := 2) rfl) rfl)
theorem se_yX10_readNumber : Cond.selects yX10_readNumber.cls yX10_readNumber yX10_readNumber ∈ ab_tb := (ab_tp (List.mem_of_getElem? (i := 49) rfl) rfl)
theorem im_yX10_fault : Cond.instanceMethod yX10_fault ∈ ab_tb := (ab_t6 (List.mem_of_getElem? (i := 6) rfl) rfl)
theorem se_yX10_fault : Cond.selects yX10_fault.cls yX10_fault yX10_fault ∈ ab_tb := (ab_t6 (List.mem_of_getElem? (i := 7) rfl) rfl)
theorem im_yX10_cancel : Cond.instanceMethod yX10_cancel ∈ ab_tb := (ab_t6 (List.mem_of_getElem? (i := 10) rfl) rfl)
theorem se_yX10_cancel : Cond.selects yX10_cancel.cls yX10_cancel yX10_cancel ∈ ab_tb := (ab_t6 (List.mem_of_getElem? (i := 11) rfl) rfl)
theorem im_yX10_noWarning : Cond.instanceMethod yX10_noWarning ∈ ab_tb := (ab_t6 (List.mem_of_getElem? (i := 15) rfl) rfl)
theorem se_yX10_noWarning : Cond.selects yX10_noWarning.cls yX10_noWarning yX10_noWarning ∈ ab_tb := (ab_tp (List.mem_of_getElem? (i := 50) rfl) rfl)
theorem im_yX10_force : Cond.instanceMethod yX10_force ∈ ab_tb := (ab_t6 (List.mem_of_getElem? (i := 18) rfl) rfl)
theorem se_yX10_force : Cond.selects yX10_force.cls yX10_force yX10_force ∈ ab_tb := (ab_t6 (List.mem_of_getElem? (i := 19) rfl) rfl)
theorem im_yX10_isInForce : Cond.instanceMethod yX10_isInForce ∈ ab_tb := (ab_t6 (List.mem_of_getElem? (i := 23) rfl) rfl)
theorem se_yX10_isInForce : Cond.selects yX10_isInForce.cls yX10_isInForce yX10_isInForce ∈ ab_tb := (ab_tp (List.mem_of_getElem? (i := 51) rfl) rfl)
theorem im_yX10_write : Cond.instanceMethod yX10_write ∈ ab_tb := (ab_t6 (List.mem_of_getElem? (i := 26) rfl) rfl)
theorem se_yX10_write : Cond.selects yX10_write.cls yX10_write yX10_write ∈ ab_tb := (ab_t6 (List.mem_of_getElem? (i := 27) rfl) rfl)
theorem im_yX10_putText : Cond.instanceMethod yX10_putText ∈ ab_tb := (ab_t6 (List.mem_of_getElem? (i := 32) rfl) rfl)
theorem se_yX10_putText : Cond.selects yX10_putText.cls yX10_putText yX10_putText ∈ ab_tb := (ab_tp (List.mem_of_getElem? (i := 52) rfl) rfl)
theorem im_yX10_put : Cond.instanceMethod yX10_put ∈ ab_tb := (ab_t6 (List.mem_of_getElem? (i := 36) rfl) rfl)
theorem se_yX10_put : Cond.selects yX10_put.cls yX10_put yX10_put ∈ ab_tb := (ab_tp (List.mem_of_getElem? (i := 53) rfl) rfl)
theorem im_yX10_putNumber : Cond.instanceMethod yX10_putNumber ∈ ab_tb := (ab_t6 (List.mem_of_getElem? (i := 40) rfl) rfl)
theorem se_yX10_putNumber : Cond.selects yX10_putNumber.cls yX10_putNumber yX10_putNumber ∈ ab_tb := (ab_tp (List.mem_of_getElem? (i := 54) rfl) rfl)
theorem im_yX10_taped : Cond.instanceMethod yX10_taped ∈ ab_tb := (ab_t6 (List.mem_of_getElem? (i := 44) rfl) rfl)
theorem se_yX10_taped : Cond.selects yX10_taped.cls yX10_taped yX10_taped ∈ ab_tb := (ab_t6 (List.mem_of_getElem? (i := 45) rfl) rfl)
theorem im_yX10_way : Cond.instanceMethod yX10_way ∈ ab_tb := (ab_t6 (List.mem_of_getElem? (i := 48) rfl) rfl)
theorem se_yX10_way : Cond.selects yX10_way.cls yX10_way yX10_way ∈ ab_tb := (ab_t6 (List.mem_of_getElem? (i := 49) rfl) rfl)
theorem im_yX10_isWithin : Cond.instanceMethod yX10_isWithin ∈ ab_tb := (ab_t6 (List.mem_of_getElem? (i := 53) rfl) rfl)
theorem se_yX10_isWithin : Cond.selects yX10_isWithin.cls yX10_isWithin yX10_isWithin ∈ ab_tb := (ab_tp (List.mem_of_getElem? (i := 55) rfl) rfl)
theorem im_yX10_least : Cond.instanceMethod yX10_least ∈ ab_tb := (ab_t6 (List.mem_of_getElem? (i := 57) rfl) rfl)
theorem se_yX10_least : Cond.selects yX10_least.cls yX10_least yX10_least ∈ ab_tb := (ab_tp (List.mem_of_getElem? (i := 56) rfl) rfl)
theorem im_yX10_flight : Cond.instanceMethod yX10_flight ∈ ab_tb := (ab_t6 (List.mem_of_getElem? (i := 60) rfl) rfl)
theorem se_yX10_flight : Cond.selects yX10_flight.cls yX10_flight yX10_flight ∈ ab_tb := (ab_t6 (List.mem_of_getElem? (i := 61) rfl) rfl)
theorem im_yX10_count : Cond.instanceMethod yX10_count ∈ ab_tb := (ab_t6 (List.mem_of_getElem? (i := 65) rfl) rfl)
theorem se_yX10_count : Cond.selects yX10_count.cls yX10_count yX10_count ∈ ab_tb := (ab_t6 (List.mem_of_getElem? (i := 66) rfl) rfl)
