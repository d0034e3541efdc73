def in_ixJ0 : List Nat := [903, 905, 907, 909]
theorem in_J0 : ∀ w ∈ u_ws RJ0 TJ0 4, w ∈ tw_big := by
  intro w hw
  obtain ⟨k, hk, rfl⟩ := List.mem_map.mp hw
  have hk := List.mem_range.mp hk
  exact tw_in (List.mem_append_right _ (List.mem_of_getElem? ((show ∀ k, k < 4 → tables_1[in_ixJ0.getD k 0]? = some (u_lay RJ0 TJ0 k) by decide +kernel) k hk))) ((show ∀ k, k < 4 → goodWord (u_lay RJ0 TJ0 k) = true by decide +kernel) k hk)
def in_ixJ4 : List Nat := [703, 705, 707, 709]
theorem in_J4 : ∀ w ∈ u_ws RJ4 TJ4 4, w ∈ tw_big := by
  intro w hw
  obtain ⟨k, hk, rfl⟩ := List.mem_map.mp hw
  have hk := List.mem_range.mp hk
  exact tw_in (List.mem_append_right _ (List.mem_of_getElem? ((show ∀ k, k < 4 → tables_1[in_ixJ4.getD k 0]? = some (u_lay RJ4 TJ4 k) by decide +kernel) k hk))) ((show ∀ k, k < 4 → goodWord (u_lay RJ4 TJ4 k) = true by decide +kernel) k hk)
def in_ixJx4a65c : List Nat := [66, 62, 64]
theorem in_Jx4a65c : ∀ w ∈ u_ws RJx4a65c TJx4a65c 3, w ∈ tw_big := by
  intro w hw
  obtain ⟨k, hk, rfl⟩ := List.mem_map.mp hw
  have hk := List.mem_range.mp hk
  exact tw_in (List.mem_append_right _ (List.mem_of_getElem? ((show ∀ k, k < 3 → tables_1[in_ixJx4a65c.getD k 0]? = some (u_lay RJx4a65c TJx4a65c k) by decide +kernel) k hk))) ((show ∀ k, k < 3 → goodWord (u_lay RJx4a65c TJx4a65c k) = true by decide +kernel) k hk)
def in_ixX0 : List Nat := [169, 171, 173, 175, 177, 179, 181, 183, 185, 187, 189, 191, 193, 195, 197]
theorem in_X0 : ∀ w ∈ u_ws RX0 TX0 15, w ∈ tw_big := by
  intro w hw
  obtain ⟨k, hk, rfl⟩ := List.mem_map.mp hw
  have hk := List.mem_range.mp hk
  exact tw_in (List.mem_append_right _ (List.mem_of_getElem? ((show ∀ k, k < 15 → tables_1[in_ixX0.getD k 0]? = some (u_lay RX0 TX0 k) by decide +kernel) k hk))) ((show ∀ k, k < 15 → goodWord (u_lay RX0 TX0 k) = true by decide +kernel) k hk)
def in_ixX1 : List Nat := [267, 269, 271]
theorem in_X1 : ∀ w ∈ u_ws RX1 TX1 3, w ∈ tw_big := by
  intro w hw
  obtain ⟨k, hk, rfl⟩ := List.mem_map.mp hw
  have hk := List.mem_range.mp hk
  exact tw_in (List.mem_append_right _ (List.mem_of_getElem? ((show ∀ k, k < 3 → tables_1[in_ixX1.getD k 0]? = some (u_lay RX1 TX1 k) by decide +kernel) k hk))) ((show ∀ k, k < 3 → goodWord (u_lay RX1 TX1 k) = true by decide +kernel) k hk)
def in_ixX3 : List Nat := [516, 518, 520, 522, 524, 526, 528, 530, 532, 534, 536, 538, 540, 542, 544]
theorem in_X3 : ∀ w ∈ u_ws RX3 TX3 15, w ∈ tw_big := by
  intro w hw
  obtain ⟨k, hk, rfl⟩ := List.mem_map.mp hw
  have hk := List.mem_range.mp hk
  exact tw_in (List.mem_append_right _ (List.mem_of_getElem? ((show ∀ k, k < 15 → tables_1[in_ixX3.getD k 0]? = some (u_lay RX3 TX3 k) by decide +kernel) k hk))) ((show ∀ k, k < 15 → goodWord (u_lay RX3 TX3 k) = true by decide +kernel) k hk)
def in_ixX4 : List Nat := [94, 96, 98, 100, 102, 104, 106, 108, 110, 112]
theorem in_X4 : ∀ w ∈ u_ws RX4 TX4 10, w ∈ tw_big := by
  intro w hw
  obtain ⟨k, hk, rfl⟩ := List.mem_map.mp hw
  have hk := List.mem_range.mp hk
  exact tw_in (List.mem_append_right _ (List.mem_of_getElem? ((show ∀ k, k < 10 → tables_1[in_ixX4.getD k 0]? = some (u_lay RX4 TX4 k) by decide +kernel) k hk))) ((show ∀ k, k < 10 → goodWord (u_lay RX4 TX4 k) = true by decide +kernel) k hk)
def in_ixX5 : List Nat := [1001, 1003, 1005, 1007, 1009, 1011, 1013]
theorem in_X5 : ∀ w ∈ u_ws RX5 TX5 7, w ∈ tw_big := by
  intro w hw
  obtain ⟨k, hk, rfl⟩ := List.mem_map.mp hw
  have hk := List.mem_range.mp hk
  exact tw_in (List.mem_append_right _ (List.mem_of_getElem? ((show ∀ k, k < 7 → tables_1[in_ixX5.getD k 0]? = some (u_lay RX5 TX5 k) by decide +kernel) k hk))) ((show ∀ k, k < 7 → goodWord (u_lay RX5 TX5 k) = true by decide +kernel) k hk)
def in_ixX6 : List Nat := [654, 656, 658]
theorem in_X6 : ∀ w ∈ u_ws RX6 TX6 3, w ∈ tw_big := by
  intro w hw
  obtain ⟨k, hk, rfl⟩ := List.mem_map.mp hw
  have hk := List.mem_range.mp hk
  exact tw_in (List.mem_append_right _ (List.mem_of_getElem? ((show ∀ k, k < 3 → tables_1[in_ixX6.getD k 0]? = some (u_lay RX6 TX6 k) by decide +kernel) k hk))) ((show ∀ k, k < 3 → goodWord (u_lay RX6 TX6 k) = true by decide +kernel) k hk)
def in_ixX7 : List Nat := [1305, 1307, 1309, 1311]
theorem in_X7 : ∀ w ∈ u_ws RX7 TX7 4, w ∈ tw_big := by
  intro w hw
  obtain ⟨k, hk, rfl⟩ := List.mem_map.mp hw
  have hk := List.mem_range.mp hk
  exact tw_in (List.mem_append_right _ (List.mem_of_getElem? ((show ∀ k, k < 4 → tables_1[in_ixX7.getD k 0]? = some (u_lay RX7 TX7 k) by decide +kernel) k hk))) ((show ∀ k, k < 4 → goodWord (u_lay RX7 TX7 k) = true by decide +kernel) k hk)
def in_ixX8 : List Nat := [225, 227, 229, 231, 233, 235, 237, 239, 241, 243, 245]
theorem in_X8 : ∀ w ∈ u_ws RX8 TX8 11, w ∈ tw_big := by
  intro w hw
  obtain ⟨k, hk, rfl⟩ := List.mem_map.mp hw
  have hk := List.mem_range.mp hk
  exact tw_in (List.mem_append_right _ (List.mem_of_getElem? ((show ∀ k, k < 11 → tables_1[in_ixX8.getD k 0]? = some (u_lay RX8 TX8 k) by decide +kernel) k hk))) ((show ∀ k, k < 11 → goodWord (u_lay RX8 TX8 k) = true by decide +kernel) k hk)
def in_ixX9 : List Nat := [288, 290, 292, 294, 296, 298]
theorem in_X9 : ∀ w ∈ u_ws RX9 TX9 6, w ∈ tw_big := by
  intro w hw
  obtain ⟨k, hk, rfl⟩ := List.mem_map.mp hw
  have hk := List.mem_range.mp hk
  exact tw_in (List.mem_append_right _ (List.mem_of_getElem? ((show ∀ k, k < 6 → tables_1[in_ixX9.getD k 0]? = some (u_lay RX9 TX9 k) by decide +kernel) k hk))) ((show ∀ k, k < 6 → goodWord (u_lay RX9 TX9 k) = true by decide +kernel) k hk)
def in_ixX10 : List Nat := [135, 137]
theorem in_X10 : ∀ w ∈ u_ws RX10 TX10 2, w ∈ tw_big := by
  intro w hw
  obtain ⟨k, hk, rfl⟩ := List.mem_map.mp hw
  have hk := List.mem_range.mp hk
  exact tw_in (List.mem_append_right _ (List.mem_of_getElem? ((show ∀ k, k < 2 → tables_1[in_ixX10.getD k 0]? = some (u_lay RX10 TX10 k) by decide +kernel) k hk))) ((show ∀ k, k < 2 → goodWord (u_lay RX10 TX10 k) = true by decide +kernel) k hk)
def in_ixX11 : List Nat := [313, 315, 317, 319, 321, 323, 325, 327, 329, 331, 333, 335]
theorem in_X11 : ∀ w ∈ u_ws RX11 TX11 12, w ∈ tw_big := by
  intro w hw
  obtain ⟨k, hk, rfl⟩ := List.mem_map.mp hw
  have hk := List.mem_range.mp hk
  exact tw_in (List.mem_append_right _ (List.mem_of_getElem? ((show ∀ k, k < 12 → tables_1[in_ixX11.getD k 0]? = some (u_lay RX11 TX11 k) by decide +kernel) k hk))) ((show ∀ k, k < 12 → goodWord (u_lay RX11 TX11 k) = true by decide +kernel) k hk)
theorem fl_Jx4a65c_9 : FL RJx4a65c 9 2 1 (.array (.object "java/lang/Object")) false := ⟨RJx4a65c, TJx4a65c, 3, tyJx4a65c, rfl, in_Jx4a65c, by decide, tw_i 57 (by decide +kernel) rfl, Or.inl rfl, tyJx4a65c_ok, nmJx4a65c, rfl, rfl, rfl, by decide⟩
theorem fl_Jx4a65c_48 : FL RJx4a65c 48 2 2 .int false := ⟨RJx4a65c, TJx4a65c, 3, tyJx4a65c, rfl, in_Jx4a65c, by decide, tw_i 58 (by decide +kernel) rfl, Or.inl rfl, tyJx4a65c_ok, nmJx4a65c, rfl, rfl, rfl, by decide⟩
theorem fl_Jx4a65c_63 : FL RJx4a65c 63 2 0 .int false := ⟨RJx4a65c, TJx4a65c, 3, tyJx4a65c, rfl, in_Jx4a65c, by decide, tw_i 60 (by decide +kernel) rfl, Or.inr (tw_i 61 (by decide +kernel) rfl), tyJx4a65c_ok, nmJx4a65c, rfl, rfl, rfl, by decide⟩
theorem fl_X4_43 : FL RX4 43 6 0 .int false := ⟨RX4, TX4, 10, tyX4, rfl, in_X4, by decide, tw_i 81 (by decide +kernel) rfl, Or.inl rfl, tyX4_ok, nmX4, rfl, rfl, rfl, by decide⟩
theorem fl_X11_190 : FL RX11 190 6 0 .int false := ⟨RX4, TX4, 10, tyX4, rfl, in_X4, by decide, tw_i 82 (by decide +kernel) rfl, Or.inl rfl, tyX4_ok, nmX4, rfl, rfl, rfl, by decide⟩
theorem fl_X4_39 : FL RX4 39 6 1 .int false := ⟨RX4, TX4, 10, tyX4, rfl, in_X4, by decide, tw_i 83 (by decide +kernel) rfl, Or.inl rfl, tyX4_ok, nmX4, rfl, rfl, rfl, by decide⟩
theorem fl_X11_198 : FL RX11 198 6 1 .int false := ⟨RX4, TX4, 10, tyX4, rfl, in_X4, by decide, tw_i 84 (by decide +kernel) rfl, Or.inl rfl, tyX4_ok, nmX4, rfl, rfl, rfl, by decide⟩
theorem fl_X4_13 : FL RX4 13 6 2 (.array (.array .int)) true := ⟨RX4, TX4, 10, tyX4, rfl, in_X4, by decide, tw_i 85 (by decide +kernel) rfl, Or.inl rfl, tyX4_ok, nmX4, rfl, rfl, rfl, by decide⟩
theorem fl_X4_16 : FL RX4 16 6 3 (.array (.array .int)) true := ⟨RX4, TX4, 10, tyX4, rfl, in_X4, by decide, tw_i 86 (by decide +kernel) rfl, Or.inl rfl, tyX4_ok, nmX4, rfl, rfl, rfl, by decide⟩
theorem fl_X4_19 : FL RX4 19 6 4 (.array .int) true := ⟨RX4, TX4, 10, tyX4, rfl, in_X4, by decide, tw_i 87 (by decide +kernel) rfl, Or.inl rfl, tyX4_ok, nmX4, rfl, rfl, rfl, by decide⟩
theorem fl_X4_23 : FL RX4 23 6 5 (.array .int) true := ⟨RX4, TX4, 10, tyX4, rfl, in_X4, by decide, tw_i 88 (by decide +kernel) rfl, Or.inl rfl, tyX4_ok, nmX4, rfl, rfl, rfl, by decide⟩
theorem fl_X4_26 : FL RX4 26 6 6 (.array .int) true := ⟨RX4, TX4, 10, tyX4, rfl, in_X4, by decide, tw_i 89 (by decide +kernel) rfl, Or.inl rfl, tyX4_ok, nmX4, rfl, rfl, rfl, by decide⟩
theorem fl_X4_29 : FL RX4 29 6 7 (.array .int) true := ⟨RX4, TX4, 10, tyX4, rfl, in_X4, by decide, tw_i 90 (by decide +kernel) rfl, Or.inl rfl, tyX4_ok, nmX4, rfl, rfl, rfl, by decide⟩
theorem fl_X4_32 : FL RX4 32 6 8 (.array .long) true := ⟨RX4, TX4, 10, tyX4, rfl, in_X4, by decide, tw_i 91 (by decide +kernel) rfl, Or.inl rfl, tyX4_ok, nmX4, rfl, rfl, rfl, by decide⟩
theorem fl_X0_109 : FL RX0 109 6 8 (.array .long) true := ⟨RX4, TX4, 10, tyX4, rfl, in_X4, by decide, tw_i 92 (by decide +kernel) rfl, Or.inl rfl, tyX4_ok, nmX4, rfl, rfl, rfl, by decide⟩
theorem fl_X4_36 : FL RX4 36 6 9 (.array .long) true := ⟨RX4, TX4, 10, tyX4, rfl, in_X4, by decide, tw_i 93 (by decide +kernel) rfl, Or.inl rfl, tyX4_ok, nmX4, rfl, rfl, rfl, by decide⟩
theorem fl_X10_13 : FL RX10 13 12 0 (.array .int) true := ⟨RX10, TX10, 2, tyX10, rfl, in_X10, by decide, tw_i 133 (by decide +kernel) rfl, Or.inl rfl, tyX10_ok, nmX10, rfl, rfl, rfl, by decide⟩
theorem fl_X10_19 : FL RX10 19 12 1 (.array .boolean) true := ⟨RX10, TX10, 2, tyX10, rfl, in_X10, by decide, tw_i 134 (by decide +kernel) rfl, Or.inl rfl, tyX10_ok, nmX10, rfl, rfl, rfl, by decide⟩
theorem fl_X0_9 : FL RX0 9 3 0 .boolean false := ⟨RX0, TX0, 15, tyX0, rfl, in_X0, by decide, tw_i 150 (by decide +kernel) rfl, Or.inl rfl, tyX0_ok, nmX0, rfl, rfl, rfl, by decide⟩
theorem fl_X11_98 : FL RX11 98 3 0 .boolean false := ⟨RX0, TX0, 15, tyX0, rfl, in_X0, by decide, tw_i 151 (by decide +kernel) rfl, Or.inl rfl, tyX0_ok, nmX0, rfl, rfl, rfl, by decide⟩
theorem fl_X0_17 : FL RX0 17 3 1 (.array (.array .long)) true := ⟨RX0, TX0, 15, tyX0, rfl, in_X0, by decide, tw_i 152 (by decide +kernel) rfl, Or.inl rfl, tyX0_ok, nmX0, rfl, rfl, rfl, by decide⟩
theorem fl_X0_20 : FL RX0 20 3 2 (.array (.array .long)) true := ⟨RX0, TX0, 15, tyX0, rfl, in_X0, by decide, tw_i 153 (by decide +kernel) rfl, Or.inl rfl, tyX0_ok, nmX0, rfl, rfl, rfl, by decide⟩
theorem fl_X11_355 : FL RX11 355 3 2 (.array (.array .long)) true := ⟨RX0, TX0, 15, tyX0, rfl, in_X0, by decide, tw_i 154 (by decide +kernel) rfl, Or.inl rfl, tyX0_ok, nmX0, rfl, rfl, rfl, by decide⟩
theorem fl_X0_23 : FL RX0 23 3 3 (.array (.array .long)) true := ⟨RX0, TX0, 15, tyX0, rfl, in_X0, by decide, tw_i 155 (by decide +kernel) rfl, Or.inl rfl, tyX0_ok, nmX0, rfl, rfl, rfl, by decide⟩
theorem fl_X11_352 : FL RX11 352 3 3 (.array (.array .long)) true := ⟨RX0, TX0, 15, tyX0, rfl, in_X0, by decide, tw_i 156 (by decide +kernel) rfl, Or.inl rfl, tyX0_ok, nmX0, rfl, rfl, rfl, by decide⟩
theorem fl_X0_26 : FL RX0 26 3 4 (.array (.array .long)) true := ⟨RX0, TX0, 15, tyX0, rfl, in_X0, by decide, tw_i 157 (by decide +kernel) rfl, Or.inl rfl, tyX0_ok, nmX0, rfl, rfl, rfl, by decide⟩
theorem fl_X0_29 : FL RX0 29 3 5 (.array (.array .long)) true := ⟨RX0, TX0, 15, tyX0, rfl, in_X0, by decide, tw_i 158 (by decide +kernel) rfl, Or.inl rfl, tyX0_ok, nmX0, rfl, rfl, rfl, by decide⟩
theorem fl_X0_32 : FL RX0 32 3 6 (.array (.array .long)) true := ⟨RX0, TX0, 15, tyX0, rfl, in_X0, by decide, tw_i 159 (by decide +kernel) rfl, Or.inl rfl, tyX0_ok, nmX0, rfl, rfl, rfl, by decide⟩
theorem fl_X0_35 : FL RX0 35 3 7 (.array (.array .long)) true := ⟨RX0, TX0, 15, tyX0, rfl, in_X0, by decide, tw_i 160 (by decide +kernel) rfl, Or.inl rfl, tyX0_ok, nmX0, rfl, rfl, rfl, by decide⟩
theorem fl_X0_38 : FL RX0 38 3 8 (.array (.array .long)) true := ⟨RX0, TX0, 15, tyX0, rfl, in_X0, by decide, tw_i 161 (by decide +kernel) rfl, Or.inl rfl, tyX0_ok, nmX0, rfl, rfl, rfl, by decide⟩
theorem fl_X0_41 : FL RX0 41 3 9 (.array .int) true := ⟨RX0, TX0, 15, tyX0, rfl, in_X0, by decide, tw_i 162 (by decide +kernel) rfl, Or.inl rfl, tyX0_ok, nmX0, rfl, rfl, rfl, by decide⟩
theorem fl_X0_45 : FL RX0 45 3 10 (.array .long) true := ⟨RX0, TX0, 15, tyX0, rfl, in_X0, by decide, tw_i 163 (by decide +kernel) rfl, Or.inl rfl, tyX0_ok, nmX0, rfl, rfl, rfl, by decide⟩
theorem fl_X0_49 : FL RX0 49 3 11 (.array .long) true := ⟨RX0, TX0, 15, tyX0, rfl, in_X0, by decide, tw_i 164 (by decide +kernel) rfl, Or.inl rfl, tyX0_ok, nmX0, rfl, rfl, rfl, by decide⟩
theorem fl_X0_52 : FL RX0 52 3 12 (.array .long) true := ⟨RX0, TX0, 15, tyX0, rfl, in_X0, by decide, tw_i 165 (by decide +kernel) rfl, Or.inl rfl, tyX0_ok, nmX0, rfl, rfl, rfl, by decide⟩
theorem fl_X0_55 : FL RX0 55 3 13 (.array .long) true := ⟨RX0, TX0, 15, tyX0, rfl, in_X0, by decide, tw_i 166 (by decide +kernel) rfl, Or.inl rfl, tyX0_ok, nmX0, rfl, rfl, rfl, by decide⟩
theorem fl_X0_58 : FL RX0 58 3 14 (.array .long) true := ⟨RX0, TX0, 15, tyX0, rfl, in_X0, by decide, tw_i 167 (by decide +kernel) rfl, Or.inl rfl, tyX0_ok, nmX0, rfl, rfl, rfl, by decide⟩
theorem fl_X11_349 : FL RX11 349 3 14 (.array .long) true := ⟨RX0, TX0, 15, tyX0, rfl, in_X0, by decide, tw_i 168 (by decide +kernel) rfl, Or.inl rfl, tyX0_ok, nmX0, rfl, rfl, rfl, by decide⟩
theorem fl_X8_52 : FL RX8 52 10 0 .int true := ⟨RX8, TX8, 11, tyX8, rfl, in_X8, by decide, tw_i 200 (by decide +kernel) rfl, Or.inl rfl, tyX8_ok, nmX8, rfl, rfl, rfl, by decide⟩
theorem fl_X0_98 : FL RX0 98 10 0 .int true := ⟨RX8, TX8, 11, tyX8, rfl, in_X8, by decide, tw_i 201 (by decide +kernel) rfl, Or.inl rfl, tyX8_ok, nmX8, rfl, rfl, rfl, by decide⟩
theorem fl_X11_343 : FL RX11 343 10 0 .int true := ⟨RX8, TX8, 11, tyX8, rfl, in_X8, by decide, tw_i 202 (by decide +kernel) rfl, Or.inl rfl, tyX8_ok, nmX8, rfl, rfl, rfl, by decide⟩
theorem fl_X8_12 : FL RX8 12 10 1 (.object "java/util/ArrayList") true := ⟨RX8, TX8, 11, tyX8, rfl, in_X8, by decide, tw_i 203 (by decide +kernel) rfl, Or.inl rfl, tyX8_ok, nmX8, rfl, rfl, rfl, by decide⟩
theorem fl_X0_67 : FL RX0 67 10 1 (.object "java/util/ArrayList") true := ⟨RX8, TX8, 11, tyX8, rfl, in_X8, by decide, tw_i 204 (by decide +kernel) rfl, Or.inl rfl, tyX8_ok, nmX8, rfl, rfl, rfl, by decide⟩
theorem fl_X11_93 : FL RX11 93 10 1 (.object "java/util/ArrayList") true := ⟨RX8, TX8, 11, tyX8, rfl, in_X8, by decide, tw_i 205 (by decide +kernel) rfl, Or.inl rfl, tyX8_ok, nmX8, rfl, rfl, rfl, by decide⟩
theorem fl_X8_18 : FL RX8 18 10 2 (.object "java/util/ArrayList") true := ⟨RX8, TX8, 11, tyX8, rfl, in_X8, by decide, tw_i 206 (by decide +kernel) rfl, Or.inl rfl, tyX8_ok, nmX8, rfl, rfl, rfl, by decide⟩
theorem fl_X8_21 : FL RX8 21 10 3 (.object "java/util/ArrayList") true := ⟨RX8, TX8, 11, tyX8, rfl, in_X8, by decide, tw_i 207 (by decide +kernel) rfl, Or.inl rfl, tyX8_ok, nmX8, rfl, rfl, rfl, by decide⟩
theorem fl_X0_179 : FL RX0 179 10 3 (.object "java/util/ArrayList") true := ⟨RX8, TX8, 11, tyX8, rfl, in_X8, by decide, tw_i 208 (by decide +kernel) rfl, Or.inl rfl, tyX8_ok, nmX8, rfl, rfl, rfl, by decide⟩
theorem fl_X8_29 : FL RX8 29 10 4 (.object "Taxmaze$Steps") true := ⟨RX8, TX8, 11, tyX8, rfl, in_X8, by decide, tw_i 209 (by decide +kernel) rfl, Or.inl rfl, tyX8_ok, nmX8, rfl, rfl, rfl, by decide⟩
theorem fl_X0_149 : FL RX0 149 10 4 (.object "Taxmaze$Steps") true := ⟨RX8, TX8, 11, tyX8, rfl, in_X8, by decide, tw_i 210 (by decide +kernel) rfl, Or.inl rfl, tyX8_ok, nmX8, rfl, rfl, rfl, by decide⟩
theorem fl_X11_244 : FL RX11 244 10 4 (.object "Taxmaze$Steps") true := ⟨RX8, TX8, 11, tyX8, rfl, in_X8, by decide, tw_i 211 (by decide +kernel) rfl, Or.inl rfl, tyX8_ok, nmX8, rfl, rfl, rfl, by decide⟩
theorem fl_X8_33 : FL RX8 33 10 5 (.object "Taxmaze$Steps") true := ⟨RX8, TX8, 11, tyX8, rfl, in_X8, by decide, tw_i 212 (by decide +kernel) rfl, Or.inl rfl, tyX8_ok, nmX8, rfl, rfl, rfl, by decide⟩
theorem fl_X0_116 : FL RX0 116 10 5 (.object "Taxmaze$Steps") true := ⟨RX8, TX8, 11, tyX8, rfl, in_X8, by decide, tw_i 213 (by decide +kernel) rfl, Or.inl rfl, tyX8_ok, nmX8, rfl, rfl, rfl, by decide⟩
theorem fl_X11_247 : FL RX11 247 10 5 (.object "Taxmaze$Steps") true := ⟨RX8, TX8, 11, tyX8, rfl, in_X8, by decide, tw_i 214 (by decide +kernel) rfl, Or.inl rfl, tyX8_ok, nmX8, rfl, rfl, rfl, by decide⟩
theorem fl_X8_38 : FL RX8 38 10 6 (.array (.array .int)) true := ⟨RX8, TX8, 11, tyX8, rfl, in_X8, by decide, tw_i 215 (by decide +kernel) rfl, Or.inl rfl, tyX8_ok, nmX8, rfl, rfl, rfl, by decide⟩
theorem fl_X0_61 : FL RX0 61 10 6 (.array (.array .int)) true := ⟨RX8, TX8, 11, tyX8, rfl, in_X8, by decide, tw_i 216 (by decide +kernel) rfl, Or.inl rfl, tyX8_ok, nmX8, rfl, rfl, rfl, by decide⟩
theorem fl_X11_215 : FL RX11 215 10 6 (.array (.array .int)) true := ⟨RX8, TX8, 11, tyX8, rfl, in_X8, by decide, tw_i 217 (by decide +kernel) rfl, Or.inl rfl, tyX8_ok, nmX8, rfl, rfl, rfl, by decide⟩
theorem fl_X8_41 : FL RX8 41 10 7 (.array .long) true := ⟨RX8, TX8, 11, tyX8, rfl, in_X8, by decide, tw_i 218 (by decide +kernel) rfl, Or.inl rfl, tyX8_ok, nmX8, rfl, rfl, rfl, by decide⟩
theorem fl_X0_188 : FL RX0 188 10 7 (.array .long) true := ⟨RX8, TX8, 11, tyX8, rfl, in_X8, by decide, tw_i 219 (by decide +kernel) rfl, Or.inl rfl, tyX8_ok, nmX8, rfl, rfl, rfl, by decide⟩
theorem fl_X11_298 : FL RX11 298 10 7 (.array .long) true := ⟨RX8, TX8, 11, tyX8, rfl, in_X8, by decide, tw_i 220 (by decide +kernel) rfl, Or.inl rfl, tyX8_ok, nmX8, rfl, rfl, rfl, by decide⟩
theorem fl_X11_301 : FL RX11 301 10 8 .long false := ⟨RX8, TX8, 11, tyX8, rfl, in_X8, by decide, tw_i 221 (by decide +kernel) rfl, Or.inl rfl, tyX8_ok, nmX8, rfl, rfl, rfl, by decide⟩
theorem fl_X11_327 : FL RX11 327 10 9 .long false := ⟨RX8, TX8, 11, tyX8, rfl, in_X8, by decide, tw_i 222 (by decide +kernel) rfl, Or.inl rfl, tyX8_ok, nmX8, rfl, rfl, rfl, by decide⟩
theorem fl_X8_48 : FL RX8 48 10 10 (.object "Taxmaze$Book") true := ⟨RX8, TX8, 11, tyX8, rfl, in_X8, by decide, tw_i 223 (by decide +kernel) rfl, Or.inl rfl, tyX8_ok, nmX8, rfl, rfl, rfl, by decide⟩
theorem fl_X11_94 : FL RX11 94 10 10 (.object "Taxmaze$Book") true := ⟨RX8, TX8, 11, tyX8, rfl, in_X8, by decide, tw_i 224 (by decide +kernel) rfl, Or.inl rfl, tyX8_ok, nmX8, rfl, rfl, rfl, by decide⟩
theorem fl_X1_9 : FL RX1 9 4 0 (.array .int) true := ⟨RX1, TX1, 3, tyX1, rfl, in_X1, by decide, tw_i 263 (by decide +kernel) rfl, Or.inl rfl, tyX1_ok, nmX1, rfl, rfl, rfl, by decide⟩
theorem fl_X11_241 : FL RX11 241 4 0 (.array .int) true := ⟨RX1, TX1, 3, tyX1, rfl, in_X1, by decide, tw_i 264 (by decide +kernel) rfl, Or.inl rfl, tyX1_ok, nmX1, rfl, rfl, rfl, by decide⟩
theorem fl_X1_17 : FL RX1 17 4 1 (.array (.array .int)) true := ⟨RX1, TX1, 3, tyX1, rfl, in_X1, by decide, tw_i 265 (by decide +kernel) rfl, Or.inl rfl, tyX1_ok, nmX1, rfl, rfl, rfl, by decide⟩
theorem fl_X1_20 : FL RX1 20 4 2 (.array (.array .int)) true := ⟨RX1, TX1, 3, tyX1, rfl, in_X1, by decide, tw_i 266 (by decide +kernel) rfl, Or.inl rfl, tyX1_ok, nmX1, rfl, rfl, rfl, by decide⟩
theorem fl_X9_14 : FL RX9 14 11 0 (.object "Taxmaze$Steps") true := ⟨RX9, TX9, 6, tyX9, rfl, in_X9, by decide, tw_i 274 (by decide +kernel) rfl, Or.inl rfl, tyX9_ok, nmX9, rfl, rfl, rfl, by decide⟩
theorem fl_X0_165 : FL RX0 165 11 0 (.object "Taxmaze$Steps") true := ⟨RX9, TX9, 6, tyX9, rfl, in_X9, by decide, tw_i 275 (by decide +kernel) rfl, Or.inl rfl, tyX9_ok, nmX9, rfl, rfl, rfl, by decide⟩
theorem fl_X11_220 : FL RX11 220 11 0 (.object "Taxmaze$Steps") true := ⟨RX9, TX9, 6, tyX9, rfl, in_X9, by decide, tw_i 276 (by decide +kernel) rfl, Or.inl rfl, tyX9_ok, nmX9, rfl, rfl, rfl, by decide⟩
theorem fl_X9_20 : FL RX9 20 11 1 (.object "Taxmaze$Steps") true := ⟨RX9, TX9, 6, tyX9, rfl, in_X9, by decide, tw_i 277 (by decide +kernel) rfl, Or.inl rfl, tyX9_ok, nmX9, rfl, rfl, rfl, by decide⟩
theorem fl_X0_160 : FL RX0 160 11 1 (.object "Taxmaze$Steps") true := ⟨RX9, TX9, 6, tyX9, rfl, in_X9, by decide, tw_i 278 (by decide +kernel) rfl, Or.inl rfl, tyX9_ok, nmX9, rfl, rfl, rfl, by decide⟩
theorem fl_X11_223 : FL RX11 223 11 1 (.object "Taxmaze$Steps") true := ⟨RX9, TX9, 6, tyX9, rfl, in_X9, by decide, tw_i 279 (by decide +kernel) rfl, Or.inl rfl, tyX9_ok, nmX9, rfl, rfl, rfl, by decide⟩
theorem fl_X9_25 : FL RX9 25 11 2 (.array (.object "Taxmaze$Brackets")) true := ⟨RX9, TX9, 6, tyX9, rfl, in_X9, by decide, tw_i 280 (by decide +kernel) rfl, Or.inl rfl, tyX9_ok, nmX9, rfl, rfl, rfl, by decide⟩
theorem fl_X0_143 : FL RX0 143 11 2 (.array (.object "Taxmaze$Brackets")) true := ⟨RX9, TX9, 6, tyX9, rfl, in_X9, by decide, tw_i 281 (by decide +kernel) rfl, Or.inl rfl, tyX9_ok, nmX9, rfl, rfl, rfl, by decide⟩
theorem fl_X11_230 : FL RX11 230 11 2 (.array (.object "Taxmaze$Brackets")) true := ⟨RX9, TX9, 6, tyX9, rfl, in_X9, by decide, tw_i 282 (by decide +kernel) rfl, Or.inl rfl, tyX9_ok, nmX9, rfl, rfl, rfl, by decide⟩
theorem fl_X9_29 : FL RX9 29 11 3 (.array .long) true := ⟨RX9, TX9, 6, tyX9, rfl, in_X9, by decide, tw_i 283 (by decide +kernel) rfl, Or.inl rfl, tyX9_ok, nmX9, rfl, rfl, rfl, by decide⟩
theorem fl_X11_334 : FL RX11 334 11 3 (.array .long) true := ⟨RX9, TX9, 6, tyX9, rfl, in_X9, by decide, tw_i 284 (by decide +kernel) rfl, Or.inl rfl, tyX9_ok, nmX9, rfl, rfl, rfl, by decide⟩
theorem fl_X9_33 : FL RX9 33 11 4 (.array .long) true := ⟨RX9, TX9, 6, tyX9, rfl, in_X9, by decide, tw_i 285 (by decide +kernel) rfl, Or.inl rfl, tyX9_ok, nmX9, rfl, rfl, rfl, by decide⟩
theorem fl_X11_337 : FL RX11 337 11 4 (.array .long) true := ⟨RX9, TX9, 6, tyX9, rfl, in_X9, by decide, tw_i 286 (by decide +kernel) rfl, Or.inl rfl, tyX9_ok, nmX9, rfl, rfl, rfl, by decide⟩
theorem fl_X9_36 : FL RX9 36 11 5 (.array .int) true := ⟨RX9, TX9, 6, tyX9, rfl, in_X9, by decide, tw_i 287 (by decide +kernel) rfl, Or.inl rfl, tyX9_ok, nmX9, rfl, rfl, rfl, by decide⟩
theorem fl_X11_10 : FL RX11 10 13 0 (.object "java/util/ArrayList") true := ⟨RX11, TX11, 12, tyX11, rfl, in_X11, by decide, tw_i 301 (by decide +kernel) rfl, Or.inl rfl, tyX11_ok, nmX11, rfl, rfl, rfl, by decide⟩
theorem fl_X11_18 : FL RX11 18 13 1 (.array (.object "Taxmaze$Person")) true := ⟨RX11, TX11, 12, tyX11, rfl, in_X11, by decide, tw_i 302 (by decide +kernel) rfl, Or.inl rfl, tyX11_ok, nmX11, rfl, rfl, rfl, by decide⟩
theorem fl_X11_24 : FL RX11 24 13 2 (.array (.object "Taxmaze$Place")) true := ⟨RX11, TX11, 12, tyX11, rfl, in_X11, by decide, tw_i 303 (by decide +kernel) rfl, Or.inl rfl, tyX11_ok, nmX11, rfl, rfl, rfl, by decide⟩
theorem fl_X11_31 : FL RX11 31 13 3 (.object "Taxmaze$Elements") true := ⟨RX11, TX11, 12, tyX11, rfl, in_X11, by decide, tw_i 304 (by decide +kernel) rfl, Or.inl rfl, tyX11_ok, nmX11, rfl, rfl, rfl, by decide⟩
theorem fl_X11_35 : FL RX11 35 13 4 (.object "java/util/ArrayList") true := ⟨RX11, TX11, 12, tyX11, rfl, in_X11, by decide, tw_i 305 (by decide +kernel) rfl, Or.inl rfl, tyX11_ok, nmX11, rfl, rfl, rfl, by decide⟩
theorem fl_X11_38 : FL RX11 38 13 5 (.object "java/util/ArrayList") true := ⟨RX11, TX11, 12, tyX11, rfl, in_X11, by decide, tw_i 306 (by decide +kernel) rfl, Or.inl rfl, tyX11_ok, nmX11, rfl, rfl, rfl, by decide⟩
theorem fl_X11_122 : FL RX11 122 13 6 .int false := ⟨RX11, TX11, 12, tyX11, rfl, in_X11, by decide, tw_i 307 (by decide +kernel) rfl, Or.inl rfl, tyX11_ok, nmX11, rfl, rfl, rfl, by decide⟩
theorem fl_X11_164 : FL RX11 164 13 7 .int false := ⟨RX11, TX11, 12, tyX11, rfl, in_X11, by decide, tw_i 308 (by decide +kernel) rfl, Or.inl rfl, tyX11_ok, nmX11, rfl, rfl, rfl, by decide⟩
theorem fl_X11_152 : FL RX11 152 13 8 .int false := ⟨RX11, TX11, 12, tyX11, rfl, in_X11, by decide, tw_i 309 (by decide +kernel) rfl, Or.inl rfl, tyX11_ok, nmX11, rfl, rfl, rfl, by decide⟩
theorem fl_X11_155 : FL RX11 155 13 9 .int false := ⟨RX11, TX11, 12, tyX11, rfl, in_X11, by decide, tw_i 310 (by decide +kernel) rfl, Or.inl rfl, tyX11_ok, nmX11, rfl, rfl, rfl, by decide⟩
theorem fl_X11_158 : FL RX11 158 13 10 .int false := ⟨RX11, TX11, 12, tyX11, rfl, in_X11, by decide, tw_i 311 (by decide +kernel) rfl, Or.inl rfl, tyX11_ok, nmX11, rfl, rfl, rfl, by decide⟩
theorem fl_X11_295 : FL RX11 295 13 11 .int false := ⟨RX11, TX11, 12, tyX11, rfl, in_X11, by decide, tw_i 312 (by decide +kernel) rfl, Or.inl rfl, tyX11_ok, nmX11, rfl, rfl, rfl, by decide⟩
theorem fl_X3_44 : FL RX3 44 5 0 .int true := ⟨RX3, TX3, 15, tyX3, rfl, in_X3, by decide, tw_i 494 (by decide +kernel) rfl, Or.inl rfl, tyX3_ok, nmX3, rfl, rfl, rfl, by decide⟩
theorem fl_X11_115 : FL RX11 115 5 0 .int true := ⟨RX3, TX3, 15, tyX3, rfl, in_X3, by decide, tw_i 495 (by decide +kernel) rfl, Or.inl rfl, tyX3_ok, nmX3, rfl, rfl, rfl, by decide⟩
theorem fl_X3_48 : FL RX3 48 5 1 .int true := ⟨RX3, TX3, 15, tyX3, rfl, in_X3, by decide, tw_i 496 (by decide +kernel) rfl, Or.inl rfl, tyX3_ok, nmX3, rfl, rfl, rfl, by decide⟩
theorem fl_X0_87 : FL RX0 87 5 1 .int true := ⟨RX3, TX3, 15, tyX3, rfl, in_X3, by decide, tw_i 497 (by decide +kernel) rfl, Or.inl rfl, tyX3_ok, nmX3, rfl, rfl, rfl, by decide⟩
theorem fl_X3_51 : FL RX3 51 5 2 .int true := ⟨RX3, TX3, 15, tyX3, rfl, in_X3, by decide, tw_i 498 (by decide +kernel) rfl, Or.inl rfl, tyX3_ok, nmX3, rfl, rfl, rfl, by decide⟩
theorem fl_X3_54 : FL RX3 54 5 3 .int true := ⟨RX3, TX3, 15, tyX3, rfl, in_X3, by decide, tw_i 499 (by decide +kernel) rfl, Or.inl rfl, tyX3_ok, nmX3, rfl, rfl, rfl, by decide⟩
theorem fl_X3_57 : FL RX3 57 5 4 .boolean true := ⟨RX3, TX3, 15, tyX3, rfl, in_X3, by decide, tw_i 500 (by decide +kernel) rfl, Or.inl rfl, tyX3_ok, nmX3, rfl, rfl, rfl, by decide⟩
theorem fl_X8_104 : FL RX8 104 5 4 .boolean true := ⟨RX3, TX3, 15, tyX3, rfl, in_X3, by decide, tw_i 501 (by decide +kernel) rfl, Or.inl rfl, tyX3_ok, nmX3, rfl, rfl, rfl, by decide⟩
theorem fl_X3_60 : FL RX3 60 5 5 .int true := ⟨RX3, TX3, 15, tyX3, rfl, in_X3, by decide, tw_i 502 (by decide +kernel) rfl, Or.inl rfl, tyX3_ok, nmX3, rfl, rfl, rfl, by decide⟩
theorem fl_X8_110 : FL RX8 110 5 5 .int true := ⟨RX3, TX3, 15, tyX3, rfl, in_X3, by decide, tw_i 503 (by decide +kernel) rfl, Or.inl rfl, tyX3_ok, nmX3, rfl, rfl, rfl, by decide⟩
theorem fl_X3_14 : FL RX3 14 5 6 (.object "Taxmaze$Steps") true := ⟨RX3, TX3, 15, tyX3, rfl, in_X3, by decide, tw_i 504 (by decide +kernel) rfl, Or.inl rfl, tyX3_ok, nmX3, rfl, rfl, rfl, by decide⟩
theorem fl_X11_79 : FL RX11 79 5 6 (.object "Taxmaze$Steps") true := ⟨RX3, TX3, 15, tyX3, rfl, in_X3, by decide, tw_i 505 (by decide +kernel) rfl, Or.inl rfl, tyX3_ok, nmX3, rfl, rfl, rfl, by decide⟩
theorem fl_X3_20 : FL RX3 20 5 7 (.array .int) true := ⟨RX3, TX3, 15, tyX3, rfl, in_X3, by decide, tw_i 506 (by decide +kernel) rfl, Or.inl rfl, tyX3_ok, nmX3, rfl, rfl, rfl, by decide⟩
theorem fl_X3_24 : FL RX3 24 5 8 (.array .int) true := ⟨RX3, TX3, 15, tyX3, rfl, in_X3, by decide, tw_i 507 (by decide +kernel) rfl, Or.inl rfl, tyX3_ok, nmX3, rfl, rfl, rfl, by decide⟩
theorem fl_X3_27 : FL RX3 27 5 9 (.array .int) true := ⟨RX3, TX3, 15, tyX3, rfl, in_X3, by decide, tw_i 508 (by decide +kernel) rfl, Or.inl rfl, tyX3_ok, nmX3, rfl, rfl, rfl, by decide⟩
theorem fl_X3_84 : FL RX3 84 5 10 .int false := ⟨RX3, TX3, 15, tyX3, rfl, in_X3, by decide, tw_i 509 (by decide +kernel) rfl, Or.inl rfl, tyX3_ok, nmX3, rfl, rfl, rfl, by decide⟩
theorem fl_X3_30 : FL RX3 30 5 11 .boolean false := ⟨RX3, TX3, 15, tyX3, rfl, in_X3, by decide, tw_i 510 (by decide +kernel) rfl, Or.inl rfl, tyX3_ok, nmX3, rfl, rfl, rfl, by decide⟩
theorem fl_X3_34 : FL RX3 34 5 12 (.array .long) true := ⟨RX3, TX3, 15, tyX3, rfl, in_X3, by decide, tw_i 511 (by decide +kernel) rfl, Or.inl rfl, tyX3_ok, nmX3, rfl, rfl, rfl, by decide⟩
theorem fl_X3_38 : FL RX3 38 5 13 (.array .int) true := ⟨RX3, TX3, 15, tyX3, rfl, in_X3, by decide, tw_i 512 (by decide +kernel) rfl, Or.inl rfl, tyX3_ok, nmX3, rfl, rfl, rfl, by decide⟩
theorem fl_X0_91 : FL RX0 91 5 13 (.array .int) true := ⟨RX3, TX3, 15, tyX3, rfl, in_X3, by decide, tw_i 513 (by decide +kernel) rfl, Or.inl rfl, tyX3_ok, nmX3, rfl, rfl, rfl, by decide⟩
theorem fl_X3_41 : FL RX3 41 5 14 (.array .long) true := ⟨RX3, TX3, 15, tyX3, rfl, in_X3, by decide, tw_i 514 (by decide +kernel) rfl, Or.inl rfl, tyX3_ok, nmX3, rfl, rfl, rfl, by decide⟩
theorem fl_X8_107 : FL RX8 107 5 14 (.array .long) true := ⟨RX3, TX3, 15, tyX3, rfl, in_X3, by decide, tw_i 515 (by decide +kernel) rfl, Or.inl rfl, tyX3_ok, nmX3, rfl, rfl, rfl, by decide⟩
theorem fl_X6_7 : FL RX6 7 8 0 (.object "Taxmaze$Contract") true := ⟨RX6, TX6, 3, tyX6, rfl, in_X6, by decide, tw_i 648 (by decide +kernel) rfl, Or.inl rfl, tyX6_ok, nmX6, rfl, rfl, rfl, by decide⟩
theorem fl_X8_100 : FL RX8 100 8 0 (.object "Taxmaze$Contract") true := ⟨RX6, TX6, 3, tyX6, rfl, in_X6, by decide, tw_i 649 (by decide +kernel) rfl, Or.inl rfl, tyX6_ok, nmX6, rfl, rfl, rfl, by decide⟩
theorem fl_X6_13 : FL RX6 13 8 1 .int true := ⟨RX6, TX6, 3, tyX6, rfl, in_X6, by decide, tw_i 650 (by decide +kernel) rfl, Or.inl rfl, tyX6_ok, nmX6, rfl, rfl, rfl, by decide⟩
theorem fl_X8_72 : FL RX8 72 8 1 .int true := ⟨RX6, TX6, 3, tyX6, rfl, in_X6, by decide, tw_i 651 (by decide +kernel) rfl, Or.inl rfl, tyX6_ok, nmX6, rfl, rfl, rfl, by decide⟩
theorem fl_X8_93 : FL RX8 93 8 2 .boolean false := ⟨RX6, TX6, 3, tyX6, rfl, in_X6, by decide, tw_i 652 (by decide +kernel) rfl, Or.inl rfl, tyX6_ok, nmX6, rfl, rfl, rfl, by decide⟩
theorem fl_X11_180 : FL RX11 180 8 2 .boolean false := ⟨RX6, TX6, 3, tyX6, rfl, in_X6, by decide, tw_i 653 (by decide +kernel) rfl, Or.inl rfl, tyX6_ok, nmX6, rfl, rfl, rfl, by decide⟩
theorem fl_J0_9 : FL RJ0 9 0 0 (.array .byte) true := ⟨RJ0, TJ0, 4, tyJ0, rfl, in_J0, by decide, tw_i 901 (by decide +kernel) rfl, Or.inl rfl, tyJ0_ok, nmJ0, rfl, rfl, rfl, by decide⟩
theorem fl_J0_15 : FL RJ0 15 0 1 .byte true := ⟨RJ0, TJ0, 4, tyJ0, rfl, in_J0, by decide, tw_i 902 (by decide +kernel) rfl, Or.inl rfl, tyJ0_ok, nmJ0, rfl, rfl, rfl, by decide⟩
theorem fl_X5_15 : FL RX5 15 7 0 .int true := ⟨RX5, TX5, 7, tyX5, rfl, in_X5, by decide, tw_i 991 (by decide +kernel) rfl, Or.inl rfl, tyX5_ok, nmX5, rfl, rfl, rfl, by decide⟩
theorem fl_X11_291 : FL RX11 291 7 0 .int true := ⟨RX5, TX5, 7, tyX5, rfl, in_X5, by decide, tw_i 992 (by decide +kernel) rfl, Or.inl rfl, tyX5_ok, nmX5, rfl, rfl, rfl, by decide⟩
theorem fl_X5_19 : FL RX5 19 7 1 .int true := ⟨RX5, TX5, 7, tyX5, rfl, in_X5, by decide, tw_i 993 (by decide +kernel) rfl, Or.inl rfl, tyX5_ok, nmX5, rfl, rfl, rfl, by decide⟩
theorem fl_X5_22 : FL RX5 22 7 2 .int true := ⟨RX5, TX5, 7, tyX5, rfl, in_X5, by decide, tw_i 994 (by decide +kernel) rfl, Or.inl rfl, tyX5_ok, nmX5, rfl, rfl, rfl, by decide⟩
theorem fl_X8_81 : FL RX8 81 7 2 .int true := ⟨RX5, TX5, 7, tyX5, rfl, in_X5, by decide, tw_i 995 (by decide +kernel) rfl, Or.inl rfl, tyX5_ok, nmX5, rfl, rfl, rfl, by decide⟩
theorem fl_X5_25 : FL RX5 25 7 3 .int true := ⟨RX5, TX5, 7, tyX5, rfl, in_X5, by decide, tw_i 996 (by decide +kernel) rfl, Or.inl rfl, tyX5_ok, nmX5, rfl, rfl, rfl, by decide⟩
theorem fl_X5_28 : FL RX5 28 7 4 .int true := ⟨RX5, TX5, 7, tyX5, rfl, in_X5, by decide, tw_i 997 (by decide +kernel) rfl, Or.inl rfl, tyX5_ok, nmX5, rfl, rfl, rfl, by decide⟩
theorem fl_X5_31 : FL RX5 31 7 5 .int true := ⟨RX5, TX5, 7, tyX5, rfl, in_X5, by decide, tw_i 998 (by decide +kernel) rfl, Or.inl rfl, tyX5_ok, nmX5, rfl, rfl, rfl, by decide⟩
theorem fl_X5_9 : FL RX5 9 7 6 (.array .long) true := ⟨RX5, TX5, 7, tyX5, rfl, in_X5, by decide, tw_i 999 (by decide +kernel) rfl, Or.inl rfl, tyX5_ok, nmX5, rfl, rfl, rfl, by decide⟩
theorem fl_X11_292 : FL RX11 292 7 6 (.array .long) true := ⟨RX5, TX5, 7, tyX5, rfl, in_X5, by decide, tw_i 1000 (by decide +kernel) rfl, Or.inl rfl, tyX5_ok, nmX5, rfl, rfl, rfl, by decide⟩
theorem fl_X7_7 : FL RX7 7 9 0 .int true := ⟨RX7, TX7, 4, tyX7, rfl, in_X7, by decide, tw_i 1298 (by decide +kernel) rfl, Or.inl rfl, tyX7_ok, nmX7, rfl, rfl, rfl, by decide⟩
theorem fl_X11_317 : FL RX11 317 9 0 .int true := ⟨RX7, TX7, 4, tyX7, rfl, in_X7, by decide, tw_i 1299 (by decide +kernel) rfl, Or.inl rfl, tyX7_ok, nmX7, rfl, rfl, rfl, by decide⟩
theorem fl_X7_13 : FL RX7 13 9 1 .int true := ⟨RX7, TX7, 4, tyX7, rfl, in_X7, by decide, tw_i 1300 (by decide +kernel) rfl, Or.inl rfl, tyX7_ok, nmX7, rfl, rfl, rfl, by decide⟩
theorem fl_X11_318 : FL RX11 318 9 1 .int true := ⟨RX7, TX7, 4, tyX7, rfl, in_X7, by decide, tw_i 1301 (by decide +kernel) rfl, Or.inl rfl, tyX7_ok, nmX7, rfl, rfl, rfl, by decide⟩
theorem fl_X7_16 : FL RX7 16 9 2 .long true := ⟨RX7, TX7, 4, tyX7, rfl, in_X7, by decide, tw_i 1302 (by decide +kernel) rfl, Or.inl rfl, tyX7_ok, nmX7, rfl, rfl, rfl, by decide⟩
theorem fl_X11_321 : FL RX11 321 9 2 .long true := ⟨RX7, TX7, 4, tyX7, rfl, in_X7, by decide, tw_i 1303 (by decide +kernel) rfl, Or.inl rfl, tyX7_ok, nmX7, rfl, rfl, rfl, by decide⟩
theorem fl_X11_324 : FL RX11 324 9 3 .boolean false := ⟨RX7, TX7, 4, tyX7, rfl, in_X7, by decide, tw_i 1304 (by decide +kernel) rfl, Or.inl rfl, tyX7_ok, nmX7, rfl, rfl, rfl, by decide⟩
theorem im_X11_init : Cond.instanceMethod yX11_init ∈ tw_big := tw_i 38 (by decide +kernel) rfl
theorem im_Jx4a65c_init_da8c8 : Cond.instanceMethod yJx4a65c_init_da8c8 ∈ tw_big := tw_i 46 (by decide +kernel) rfl
theorem im_Jxc12de_init_da8c8 : Cond.instanceMethod yJxc12de_init_da8c8 ∈ tw_big := tw_i 49 (by decide +kernel) rfl
