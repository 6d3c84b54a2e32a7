set_option maxRecDepth 1000000 in
theorem ck_Jx4a65c_grow_d5877_0 : am_okJ 19 false cJx4a65c_grow_d5877 (some (.array (.object "java/lang/Object"))) tb_Jx4a65c_grow_d5877 0 = true := by decide +kernel
set_option maxRecDepth 1000000 in
theorem ck_Jx4a65c_grow_d5877 : am_okT 19 false cJx4a65c_grow_d5877 (some (.array (.object "java/lang/Object"))) tb_Jx4a65c_grow_d5877 = true := am_okJ_s rfl (am_j1 (am_j0) ck_Jx4a65c_grow_d5877_0)
set_option maxRecDepth 1000000 in
theorem ck_Jx4a65c_size_8abf5_0 : am_okJ 19 false cJx4a65c_size_8abf5 (some (.int)) tb_Jx4a65c_size_8abf5 0 = true := by decide +kernel
set_option maxRecDepth 1000000 in
theorem ck_Jx4a65c_size_8abf5 : am_okT 19 false cJx4a65c_size_8abf5 (some (.int)) tb_Jx4a65c_size_8abf5 = true := am_okJ_s rfl (am_j1 (am_j0) ck_Jx4a65c_size_8abf5_0)
set_option maxRecDepth 1000000 in
theorem ck_Jx4a65c_elementData_915e3_0 : am_okJ 19 false cJx4a65c_elementData_915e3 (some (.object "java/lang/Object")) tb_Jx4a65c_elementData_915e3 0 = true := by decide +kernel
set_option maxRecDepth 1000000 in
theorem ck_Jx4a65c_elementData_915e3 : am_okT 19 false cJx4a65c_elementData_915e3 (some (.object "java/lang/Object")) tb_Jx4a65c_elementData_915e3 = true := am_okJ_s rfl (am_j1 (am_j0) ck_Jx4a65c_elementData_915e3_0)
set_option maxRecDepth 1000000 in
theorem ck_Jx4a65c_get_915e3_0 : am_okJ 19 false cJx4a65c_get_915e3 (some (.object "java/lang/Object")) tb_Jx4a65c_get_915e3 0 = true := by decide +kernel
set_option maxRecDepth 1000000 in
theorem ck_Jx4a65c_get_915e3 : am_okT 19 false cJx4a65c_get_915e3 (some (.object "java/lang/Object")) tb_Jx4a65c_get_915e3 = true := am_okJ_s rfl (am_j1 (am_j0) ck_Jx4a65c_get_915e3_0)
set_option maxRecDepth 1000000 in
theorem ck_Jx4a65c_add_72be8_0 : am_okJ 19 false cJx4a65c_add_72be8 (none) tb_Jx4a65c_add_72be8 0 = true := by decide +kernel
set_option maxRecDepth 1000000 in
theorem ck_Jx4a65c_add_72be8_1 : am_okJ 19 false cJx4a65c_add_72be8 (none) tb_Jx4a65c_add_72be8 1 = true := by decide +kernel
set_option maxRecDepth 1000000 in
theorem ck_Jx4a65c_add_72be8 : am_okT 19 false cJx4a65c_add_72be8 (none) tb_Jx4a65c_add_72be8 = true := am_okJ_s rfl (am_j1 (am_j1 (am_j0) ck_Jx4a65c_add_72be8_0) ck_Jx4a65c_add_72be8_1)
set_option maxRecDepth 1000000 in
theorem ck_Jx4a65c_add_9ea2d_0 : am_okJ 19 false cJx4a65c_add_9ea2d (some (.boolean)) tb_Jx4a65c_add_9ea2d 0 = true := by decide +kernel
set_option maxRecDepth 1000000 in
theorem ck_Jx4a65c_add_9ea2d_1 : am_okJ 19 false cJx4a65c_add_9ea2d (some (.boolean)) tb_Jx4a65c_add_9ea2d 1 = true := by decide +kernel
set_option maxRecDepth 1000000 in
theorem ck_Jx4a65c_add_9ea2d : am_okT 19 false cJx4a65c_add_9ea2d (some (.boolean)) tb_Jx4a65c_add_9ea2d = true := am_okJ_s rfl (am_j1 (am_j1 (am_j0) ck_Jx4a65c_add_9ea2d_0) ck_Jx4a65c_add_9ea2d_1)
set_option maxRecDepth 1000000 in
theorem ck_J7_fill_53178_0 : am_okJ 20 false cJ7_fill_53178 (none) tb_J7_fill_53178 0 = true := by decide +kernel
set_option maxRecDepth 1000000 in
theorem ck_J7_fill_53178_1 : am_okJ 20 false cJ7_fill_53178 (none) tb_J7_fill_53178 1 = true := by decide +kernel
set_option maxRecDepth 1000000 in
theorem ck_J7_fill_53178 : am_okT 20 false cJ7_fill_53178 (none) tb_J7_fill_53178 = true := am_okJ_s rfl (am_j1 (am_j1 (am_j0) ck_J7_fill_53178_0) ck_J7_fill_53178_1)
set_option maxRecDepth 1000000 in
theorem ck_J7_copyOf_1904c_0 : am_okJ 20 false cJ7_copyOf_1904c (some (.array (.object "java/lang/Object"))) tb_J7_copyOf_1904c 0 = true := by decide +kernel
set_option maxRecDepth 1000000 in
theorem ck_J7_copyOf_1904c : am_okT 20 false cJ7_copyOf_1904c (some (.array (.object "java/lang/Object"))) tb_J7_copyOf_1904c = true := am_okJ_s rfl (am_j1 (am_j0) ck_J7_copyOf_1904c_0)
set_option maxRecDepth 1000000 in
theorem ck_J7_copyOf_6403c_0 : am_okJ 20 false cJ7_copyOf_6403c (some (.array (.object "java/lang/Object"))) tb_J7_copyOf_6403c 0 = true := by decide +kernel
set_option maxRecDepth 1000000 in
theorem ck_J7_copyOf_6403c_1 : am_okJ 20 false cJ7_copyOf_6403c (some (.array (.object "java/lang/Object"))) tb_J7_copyOf_6403c 1 = true := by decide +kernel
set_option maxRecDepth 1000000 in
theorem ck_J7_copyOf_6403c : am_okT 20 false cJ7_copyOf_6403c (some (.array (.object "java/lang/Object"))) tb_J7_copyOf_6403c = true := am_okJ_s rfl (am_j1 (am_j1 (am_j0) ck_J7_copyOf_6403c_0) ck_J7_copyOf_6403c_1)
set_option maxRecDepth 1000000 in
theorem ck_J7_copyOf_59c91_0 : am_okJ 20 false cJ7_copyOf_59c91 (some (.array .int)) tb_J7_copyOf_59c91 0 = true := by decide +kernel
set_option maxRecDepth 1000000 in
theorem ck_J7_copyOf_59c91_1 : am_okJ 20 false cJ7_copyOf_59c91 (some (.array .int)) tb_J7_copyOf_59c91 1 = true := by decide +kernel
set_option maxRecDepth 1000000 in
theorem ck_J7_copyOf_59c91 : am_okT 20 false cJ7_copyOf_59c91 (some (.array .int)) tb_J7_copyOf_59c91 = true := am_okJ_s rfl (am_j1 (am_j1 (am_j0) ck_J7_copyOf_59c91_0) ck_J7_copyOf_59c91_1)
set_option maxRecDepth 1000000 in
theorem ck_J15_checkIndex_7cf53_0 : am_okJ 21 false cJ15_checkIndex_7cf53 (some (.int)) tb_J15_checkIndex_7cf53 0 = true := by decide +kernel
set_option maxRecDepth 1000000 in
theorem ck_J15_checkIndex_7cf53 : am_okT 21 false cJ15_checkIndex_7cf53 (some (.int)) tb_J15_checkIndex_7cf53 = true := am_okJ_s rfl (am_j1 (am_j0) ck_J15_checkIndex_7cf53_0)
set_option maxRecDepth 1000000 in
theorem ck_J8_newLength_cabcc_0 : am_okJ 22 false cJ8_newLength_cabcc (some (.int)) tb_J8_newLength_cabcc 0 = true := by decide +kernel
set_option maxRecDepth 1000000 in
theorem ck_J8_newLength_cabcc_1 : am_okJ 22 false cJ8_newLength_cabcc (some (.int)) tb_J8_newLength_cabcc 1 = true := by decide +kernel
set_option maxRecDepth 1000000 in
theorem ck_J8_newLength_cabcc : am_okT 22 false cJ8_newLength_cabcc (some (.int)) tb_J8_newLength_cabcc = true := am_okJ_s rfl (am_j1 (am_j1 (am_j0) ck_J8_newLength_cabcc_0) ck_J8_newLength_cabcc_1)
set_option maxRecDepth 1000000 in
theorem ck_J3_checkIndex_8e157_0 : am_okJ 23 false cJ3_checkIndex_8e157 (some (.int)) tb_J3_checkIndex_8e157 0 = true := by decide +kernel
set_option maxRecDepth 1000000 in
theorem ck_J3_checkIndex_8e157 : am_okT 23 false cJ3_checkIndex_8e157 (some (.int)) tb_J3_checkIndex_8e157 = true := am_okJ_s rfl (am_j1 (am_j0) ck_J3_checkIndex_8e157_0)
