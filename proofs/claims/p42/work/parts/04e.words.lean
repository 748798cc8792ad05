theorem tb_arr_int : Cond.arrayClass .int ∈ TB := gW_TB (i := 221) (by decide +kernel) rfl
theorem tb_arr_long : Cond.arrayClass .long ∈ TB := gW_TB (i := 420) (by decide +kernel) rfl
theorem tb_arr_byte : Cond.arrayClass .byte ∈ TB := gW_TB (i := 649) (by decide +kernel) rfl
theorem tb_arr_boolean : Cond.arrayClass .boolean ∈ TB := gW_TB (i := 358) (by decide +kernel) rfl
theorem tb_oi_i : Cond.instanceMethod objectInit ∈ TB := gW_TB (i := 124) (by decide +kernel) rfl
theorem tb_oi_c : Cond.code objectInit ⟨#[0xb1]⟩ 1 none ∈ TB := gW_TB (i := 125) (by decide +kernel) rfl
theorem tb_s10 : Cond.static Lib.Math.max.name ∈ TB := gW_TB (i := 671) (by decide +kernel) rfl
theorem tb_c10 : Cond.code Lib.Math.max.name Lib.Math.max.code 2 (some .int) ∈ TB := gW_TB (i := 672) (by decide +kernel) rfl
theorem tb_s11 : Cond.static Lib.Math.min.name ∈ TB := gW_TB (i := 518) (by decide +kernel) rfl
theorem tb_c11 : Cond.code Lib.Math.min.name Lib.Math.min.code 2 (some .int) ∈ TB := gW_TB (i := 519) (by decide +kernel) rfl
theorem tb_s12 : Cond.static Lib.Math.abs.name ∈ TB := gW_TB (i := 733) (by decide +kernel) rfl
theorem tb_c12 : Cond.code Lib.Math.abs.name Lib.Math.abs.code 1 (some .int) ∈ TB := gW_TB (i := 734) (by decide +kernel) rfl
theorem tb_s13 : Cond.static Lib.MathLoose.abs_long.x ∈ TB := gW_TB (i := 985) (by decide +kernel) rfl
theorem tb_c13 : Cond.code Lib.MathLoose.abs_long.x Lib.MathLoose.abs_long.code 2 (some .long) ∈ TB := gW_TB (i := 986) (by decide +kernel) rfl
theorem tb_s14 : Cond.static Lib.MathLoose.max_long.x ∈ TB := gW_TB (i := 927) (by decide +kernel) rfl
theorem tb_c14 : Cond.code Lib.MathLoose.max_long.x Lib.MathLoose.max_long.code 4 (some .long) ∈ TB := gW_TB (i := 928) (by decide +kernel) rfl
theorem tb_s15 : Cond.static arraycopyName ∈ TB := gW_TB (i := 767) (by decide +kernel) rfl
theorem tb_i15 : Cond.initialized "java/lang/System" ∈ TB := gW_TB (i := 115) (by decide +kernel) rfl
theorem tb_n15 : Cond.native arraycopyName ∈ TB := gW_TB (i := 768) (by decide +kernel) rfl
theorem tb_imath : Cond.initialized "java/lang/Math" ∈ TB := gW_TB (i := 106) (by decide +kernel) rfl
theorem tb_inst0 : Cond.instantiable RX0 7 ∈ TB := gW_TB (i := 389) (by decide +kernel) rfl
theorem tb_ini0 : Cond.initialized RX0 ∈ TB := gW_TB (i := 103) (by decide +kernel) rfl
def up0 : List Nat := [405, 407, 409, 411, 413, 415, 417]
theorem tb_u0 : ∀ w ∈ u_ws RX0 TX0 7, w ∈ TB := by
  have h : (List.range 7).all (fun k => gW (up0.getD k 0) (u_lay RX0 TX0 k) && goodWord (u_lay RX0 TX0 k)) = true := by decide +kernel
  intro w hw
  obtain ⟨k, hk, rfl⟩ := List.mem_map.mp hw
  have h1 := List.all_eq_true.mp h k hk
  simp only [Bool.and_eq_true] at h1
  exact gW_TB h1.1 h1.2
theorem tb_inst1 : Cond.instantiable RX1 5 ∈ TB := gW_TB (i := 334) (by decide +kernel) rfl
theorem tb_ini1 : Cond.initialized RX1 ∈ TB := gW_TB (i := 101) (by decide +kernel) rfl
def up1 : List Nat := [347, 349, 351, 353, 355]
theorem tb_u1 : ∀ w ∈ u_ws RX1 TX1 5, w ∈ TB := by
  have h : (List.range 5).all (fun k => gW (up1.getD k 0) (u_lay RX1 TX1 k) && goodWord (u_lay RX1 TX1 k)) = true := by decide +kernel
  intro w hw
  obtain ⟨k, hk, rfl⟩ := List.mem_map.mp hw
  have h1 := List.all_eq_true.mp h k hk
  simp only [Bool.and_eq_true] at h1
  exact gW_TB h1.1 h1.2
theorem tb_inst2 : Cond.instantiable RX2 6 ∈ TB := gW_TB (i := 360) (by decide +kernel) rfl
theorem tb_ini2 : Cond.initialized RX2 ∈ TB := gW_TB (i := 102) (by decide +kernel) rfl
def up2 : List Nat := [375, 377, 379, 381, 383, 385]
theorem tb_u2 : ∀ w ∈ u_ws RX2 TX2 6, w ∈ TB := by
  have h : (List.range 6).all (fun k => gW (up2.getD k 0) (u_lay RX2 TX2 k) && goodWord (u_lay RX2 TX2 k)) = true := by decide +kernel
  intro w hw
  obtain ⟨k, hk, rfl⟩ := List.mem_map.mp hw
  have h1 := List.all_eq_true.mp h k hk
  simp only [Bool.and_eq_true] at h1
  exact gW_TB h1.1 h1.2
theorem tb_inst3 : Cond.instantiable RX4 10 ∈ TB := gW_TB (i := 127) (by decide +kernel) rfl
theorem tb_ini3 : Cond.initialized RX4 ∈ TB := gW_TB (i := 98) (by decide +kernel) rfl
def up3 : List Nat := [232, 234, 236, 238, 240, 242, 244, 246, 248, 250]
theorem tb_u3 : ∀ w ∈ u_ws RX4 TX4 10, w ∈ TB := by
  have h : (List.range 10).all (fun k => gW (up3.getD k 0) (u_lay RX4 TX4 k) && goodWord (u_lay RX4 TX4 k)) = true := by decide +kernel
  intro w hw
  obtain ⟨k, hk, rfl⟩ := List.mem_map.mp hw
  have h1 := List.all_eq_true.mp h k hk
  simp only [Bool.and_eq_true] at h1
  exact gW_TB h1.1 h1.2
theorem tb_inst4 : Cond.instantiable RX5 9 ∈ TB := gW_TB (i := 422) (by decide +kernel) rfl
theorem tb_ini4 : Cond.initialized RX5 ∈ TB := gW_TB (i := 104) (by decide +kernel) rfl
def up4 : List Nat := [439, 441, 443, 445, 447, 449, 451, 453, 455]
theorem tb_u4 : ∀ w ∈ u_ws RX5 TX5 9, w ∈ TB := by
  have h : (List.range 9).all (fun k => gW (up4.getD k 0) (u_lay RX5 TX5 k) && goodWord (u_lay RX5 TX5 k)) = true := by decide +kernel
  intro w hw
  obtain ⟨k, hk, rfl⟩ := List.mem_map.mp hw
  have h1 := List.all_eq_true.mp h k hk
  simp only [Bool.and_eq_true] at h1
  exact gW_TB h1.1 h1.2
theorem tb_inst5 : Cond.instantiable RX6 15 ∈ TB := gW_TB (i := 256) (by decide +kernel) rfl
theorem tb_ini5 : Cond.initialized RX6 ∈ TB := gW_TB (i := 100) (by decide +kernel) rfl
def up5 : List Nat := [302, 304, 306, 308, 310, 312, 314, 316, 318, 320, 322, 324, 326, 328, 330]
theorem tb_u5 : ∀ w ∈ u_ws RX6 TX6 15, w ∈ TB := by
  have h : (List.range 15).all (fun k => gW (up5.getD k 0) (u_lay RX6 TX6 k) && goodWord (u_lay RX6 TX6 k)) = true := by decide +kernel
  intro w hw
  obtain ⟨k, hk, rfl⟩ := List.mem_map.mp hw
  have h1 := List.all_eq_true.mp h k hk
  simp only [Bool.and_eq_true] at h1
  exact gW_TB h1.1 h1.2
theorem tb_inst6 : Cond.instantiable RX7 14 ∈ TB := gW_TB (i := 133) (by decide +kernel) rfl
theorem tb_ini6 : Cond.initialized RX7 ∈ TB := gW_TB (i := 99) (by decide +kernel) rfl
def up6 : List Nat := [192, 194, 196, 198, 200, 202, 204, 206, 208, 210, 212, 214, 216, 218]
theorem tb_u6 : ∀ w ∈ u_ws RX7 TX7 14, w ∈ TB := by
  have h : (List.range 14).all (fun k => gW (up6.getD k 0) (u_lay RX7 TX7 k) && goodWord (u_lay RX7 TX7 k)) = true := by decide +kernel
  intro w hw
  obtain ⟨k, hk, rfl⟩ := List.mem_map.mp hw
  have h1 := List.all_eq_true.mp h k hk
  simp only [Bool.and_eq_true] at h1
  exact gW_TB h1.1 h1.2
theorem tb_inst7 : Cond.instantiable RX8 14 ∈ TB := gW_TB (i := 119) (by decide +kernel) rfl
theorem tb_ini7 : Cond.initialized RX8 ∈ TB := gW_TB (i := 97) (by decide +kernel) rfl
def up7 : List Nat := [472, 474, 476, 478, 480, 482, 484, 486, 488, 490, 492, 494, 496, 498]
theorem tb_u7 : ∀ w ∈ u_ws RX8 TX8 14, w ∈ TB := by
  have h : (List.range 14).all (fun k => gW (up7.getD k 0) (u_lay RX8 TX8 k) && goodWord (u_lay RX8 TX8 k)) = true := by decide +kernel
  intro w hw
  obtain ⟨k, hk, rfl⟩ := List.mem_map.mp hw
  have h1 := List.all_eq_true.mp h k hk
  simp only [Bool.and_eq_true] at h1
  exact gW_TB h1.1 h1.2
theorem tb_inst8 : Cond.instantiable RX9 43 ∈ TB := gW_TB (i := 1169) (by decide +kernel) rfl
theorem tb_ini8 : Cond.initialized RX9 ∈ TB := gW_TB (i := 105) (by decide +kernel) rfl
def up8 : List Nat := [1223, 1225, 1227, 1229, 1231, 1233, 1235, 1237, 1239, 1241, 1243, 1245, 1247, 1249, 1251, 1253, 1255, 1257, 1259, 1261, 1263, 1265, 1267, 1269, 1271, 1273, 1275, 1277, 1279, 1281, 1283, 1285, 1287, 1289, 1291, 1293, 1295, 1297, 1299, 1301, 1303, 1305, 1307]
theorem tb_u8 : ∀ w ∈ u_ws RX9 TX9 43, w ∈ TB := by
  have h : (List.range 43).all (fun k => gW (up8.getD k 0) (u_lay RX9 TX9 k) && goodWord (u_lay RX9 TX9 k)) = true := by decide +kernel
  intro w hw
  obtain ⟨k, hk, rfl⟩ := List.mem_map.mp hw
  have h1 := List.all_eq_true.mp h k hk
  simp only [Bool.and_eq_true] at h1
  exact gW_TB h1.1 h1.2
theorem cls_words (c : Nat) (C : String) (T : u_T) (N : Nat) (h : vwCl[c]? = some (C, T, N)) : (∀ w ∈ u_ws C T N, w ∈ TB) ∧ Cond.instantiable C N ∈ TB ∧ Cond.initialized C ∈ TB := by
  match c, h with
  | 0, h => cases h; exact ⟨tb_u0, tb_inst0, tb_ini0⟩
  | 1, h => cases h; exact ⟨tb_u1, tb_inst1, tb_ini1⟩
  | 2, h => cases h; exact ⟨tb_u2, tb_inst2, tb_ini2⟩
  | 3, h => cases h; exact ⟨tb_u3, tb_inst3, tb_ini3⟩
  | 4, h => cases h; exact ⟨tb_u4, tb_inst4, tb_ini4⟩
  | 5, h => cases h; exact ⟨tb_u5, tb_inst5, tb_ini5⟩
  | 6, h => cases h; exact ⟨tb_u6, tb_inst6, tb_ini6⟩
  | 7, h => cases h; exact ⟨tb_u7, tb_inst7, tb_ini7⟩
  | 8, h => cases h; exact ⟨tb_u8, tb_inst8, tb_ini8⟩
  | n + 9, h => simp [vwCl] at h
