theorem ab_mem {w : Cond} (i : Nat) (h : lw_tbl[i]? = some w) (g : goodWord w = true) : w ∈ ab_tbl := List.mem_filter.mpr ⟨List.mem_of_getElem? h, g⟩
theorem ab_lay_chk (C : String) (T : u_T) (ps : List Nat) (h : ((List.range ps.length).all fun k => decide (lw_tbl[ps.getD k 0]? = some (u_lay C T k)) && goodWord (u_lay C T k)) = true) : ∀ w ∈ u_ws C T ps.length, w ∈ ab_tbl := by
  intro w hw
  obtain ⟨k, hk, rfl⟩ := List.mem_map.mp hw
  have h1 := List.all_eq_true.mp h k hk
  simp only [Bool.and_eq_true, decide_eq_true_eq] at h1
  exact ab_mem _ h1.1 h1.2
theorem fl_0 : ∀ w ∈ u_ws RX0 TX0 1, w ∈ ab_tbl := ab_lay_chk RX0 TX0 [493] (by decide +kernel)
theorem fl_1 : ∀ w ∈ u_ws RX1 TX1 2, w ∈ ab_tbl := ab_lay_chk RX1 TX1 [455, 457] (by decide +kernel)
theorem fl_2 : ∀ w ∈ u_ws RX2 TX2 3, w ∈ ab_tbl := ab_lay_chk RX2 TX2 [434, 436, 438] (by decide +kernel)
theorem fl_3 : ∀ w ∈ u_ws RX3 TX3 8, w ∈ ab_tbl := ab_lay_chk RX3 TX3 [244, 246, 248, 250, 252, 254, 256, 258] (by decide +kernel)
theorem fl_4 : ∀ w ∈ u_ws RX4 TX4 2, w ∈ ab_tbl := ab_lay_chk RX4 TX4 [144, 146] (by decide +kernel)
theorem fl_5 : ∀ w ∈ u_ws RX5 TX5 19, w ∈ ab_tbl := ab_lay_chk RX5 TX5 [332, 334, 336, 338, 340, 342, 344, 346, 348, 350, 352, 354, 356, 358, 360, 362, 364, 366, 368] (by decide +kernel)
theorem fl_6 : ∀ w ∈ u_ws RX6 TX6 5, w ∈ ab_tbl := ab_lay_chk RX6 TX6 [222, 224, 226, 228, 230] (by decide +kernel)
theorem fl_7 : ∀ w ∈ u_ws RX7 TX7 2, w ∈ ab_tbl := ab_lay_chk RX7 TX7 [505, 507] (by decide +kernel)
theorem fl_8 : ∀ w ∈ u_ws RX8 TX8 4, w ∈ ab_tbl := ab_lay_chk RX8 TX8 [477, 479, 481, 483] (by decide +kernel)
theorem fl_9 : ∀ w ∈ u_ws RX9 TX9 2, w ∈ ab_tbl := ab_lay_chk RX9 TX9 [462, 464] (by decide +kernel)
theorem fl_10 : ∀ w ∈ u_ws RX10 TX10 8, w ∈ ab_tbl := ab_lay_chk RX10 TX10 [405, 407, 409, 411, 413, 415, 417, 419] (by decide +kernel)
theorem fl_11 : ∀ w ∈ u_ws RX11 TX11 15, w ∈ ab_tbl := ab_lay_chk RX11 TX11 [538, 540, 542, 544, 546, 548, 550, 552, 554, 556, 558, 560, 562, 564, 566] (by decide +kernel)
theorem fl_12 : ∀ w ∈ u_ws RX12 TX12 70, w ∈ ab_tbl := ab_lay_chk RX12 TX12 [1221, 1223, 1225, 1227, 1229, 1231, 1233, 1235, 1237, 1239, 1241, 1243, 1245, 1247, 1249, 1251, 1253, 1255, 1257, 1259, 1261, 1263, 1265, 1267, 1269, 1271, 1273, 1275, 1277, 1279, 1281, 1283, 1285, 1287, 1289, 1291, 1293, 1295, 1297, 1299, 1301, 1303, 1305, 1307, 1309, 1311, 1313, 1315, 1317, 1319, 1321, 1323, 1325, 1327, 1329, 1331, 1333, 1335, 1337, 1339, 1341, 1343, 1345, 1347, 1349, 1351, 1353, 1355, 1357, 1359] (by decide +kernel)
theorem ab_lays : ∀ (ci : Nat) (r : vw_C), vwCl[ci]? = some r → ∀ w ∈ u_ws r.1 r.2.1 r.2.2, w ∈ ab_tbl
  | 0, _, h => by cases h; exact fl_0
  | 1, _, h => by cases h; exact fl_1
  | 2, _, h => by cases h; exact fl_2
  | 3, _, h => by cases h; exact fl_3
  | 4, _, h => by cases h; exact fl_4
  | 5, _, h => by cases h; exact fl_5
  | 6, _, h => by cases h; exact fl_6
  | 7, _, h => by cases h; exact fl_7
  | 8, _, h => by cases h; exact fl_8
  | 9, _, h => by cases h; exact fl_9
  | 10, _, h => by cases h; exact fl_10
  | 11, _, h => by cases h; exact fl_11
  | 12, _, h => by cases h; exact fl_12
  | _ + 13, _, h => by cases h
theorem ab_nmok : ∀ (ci : Nat) (r : vw_C), vwCl[ci]? = some r → ∀ a, a < r.2.2 → ∀ b, b < r.2.2 → a ≠ b → (r.2.1 a).2.1 ≠ (r.2.1 b).2.1
  | 0, _, h => by cases h; exact nmX0
  | 1, _, h => by cases h; exact nmX1
  | 2, _, h => by cases h; exact nmX2
  | 3, _, h => by cases h; exact nmX3
  | 4, _, h => by cases h; exact nmX4
  | 5, _, h => by cases h; exact nmX5
  | 6, _, h => by cases h; exact nmX6
  | 7, _, h => by cases h; exact nmX7
  | 8, _, h => by cases h; exact nmX8
  | 9, _, h => by cases h; exact nmX9
  | 10, _, h => by cases h; exact nmX10
  | 11, _, h => by cases h; exact nmX11
  | 12, _, h => by cases h; exact nmX12
  | _ + 13, _, h => by cases h
theorem ab_tyok : ∀ (ci : Nat) (r : vw_C), vwCl[ci]? = some r → ∀ k, k < r.2.2 → parseFieldDescriptor (r.2.1 k).2.2.1 = some (ab_ty ci k)
  | 0, _, h => by cases h; exact fun k hk => (tyX0_ok k hk).trans (congrArg some (show tyX0 k = (parseFieldDescriptor (TX0 k).2.2.1).getD .int by rw [tyX0_ok k hk]; rfl))
  | 1, _, h => by cases h; exact fun k hk => (tyX1_ok k hk).trans (congrArg some (show tyX1 k = (parseFieldDescriptor (TX1 k).2.2.1).getD .int by rw [tyX1_ok k hk]; rfl))
  | 2, _, h => by cases h; exact fun k hk => (tyX2_ok k hk).trans (congrArg some (show tyX2 k = (parseFieldDescriptor (TX2 k).2.2.1).getD .int by rw [tyX2_ok k hk]; rfl))
  | 3, _, h => by cases h; exact fun k hk => (tyX3_ok k hk).trans (congrArg some (show tyX3 k = (parseFieldDescriptor (TX3 k).2.2.1).getD .int by rw [tyX3_ok k hk]; rfl))
  | 4, _, h => by cases h; exact fun k hk => (tyX4_ok k hk).trans (congrArg some (show tyX4 k = (parseFieldDescriptor (TX4 k).2.2.1).getD .int by rw [tyX4_ok k hk]; rfl))
  | 5, _, h => by cases h; exact fun k hk => (tyX5_ok k hk).trans (congrArg some (show tyX5 k = (parseFieldDescriptor (TX5 k).2.2.1).getD .int by rw [tyX5_ok k hk]; rfl))
  | 6, _, h => by cases h; exact fun k hk => (tyX6_ok k hk).trans (congrArg some (show tyX6 k = (parseFieldDescriptor (TX6 k).2.2.1).getD .int by rw [tyX6_ok k hk]; rfl))
  | 7, _, h => by cases h; exact fun k hk => (tyX7_ok k hk).trans (congrArg some (show tyX7 k = (parseFieldDescriptor (TX7 k).2.2.1).getD .int by rw [tyX7_ok k hk]; rfl))
  | 8, _, h => by cases h; exact fun k hk => (tyX8_ok k hk).trans (congrArg some (show tyX8 k = (parseFieldDescriptor (TX8 k).2.2.1).getD .int by rw [tyX8_ok k hk]; rfl))
  | 9, _, h => by cases h; exact fun k hk => (tyX9_ok k hk).trans (congrArg some (show tyX9 k = (parseFieldDescriptor (TX9 k).2.2.1).getD .int by rw [tyX9_ok k hk]; rfl))
  | 10, _, h => by cases h; exact fun k hk => (tyX10_ok k hk).trans (congrArg some (show tyX10 k = (parseFieldDescriptor (TX10 k).2.2.1).getD .int by rw [tyX10_ok k hk]; rfl))
  | 11, _, h => by cases h; exact fun k hk => (tyX11_ok k hk).trans (congrArg some (show tyX11 k = (parseFieldDescriptor (TX11 k).2.2.1).getD .int by rw [tyX11_ok k hk]; rfl))
  | 12, _, h => by cases h; exact fun k hk => (tyX12_ok k hk).trans (congrArg some (show tyX12 k = (parseFieldDescriptor (TX12 k).2.2.1).getD .int by rw [tyX12_ok k hk]; rfl))
  | _ + 13, _, h => by cases h
def ab_df (ci : Nat) : List Value := match vwCl[ci]? with
  | some r => (List.range r.2.2).map fun k => defaultValue (ab_ty ci k)
  | none => []
theorem df_0 : ab_df 0 = [.null] := by decide +kernel
theorem df_1 : ab_df 1 = [.null, .null] := by decide +kernel
theorem df_2 : ab_df 2 = [.int 0, .null, .int 0] := by decide +kernel
theorem df_3 : ab_df 3 = [.int 0, .null, .int 0, .int 0, .int 0, .int 0, .int 0, .long 0] := by decide +kernel
theorem df_4 : ab_df 4 = [.null, .int 0] := by decide +kernel
theorem df_5 : ab_df 5 = [.int 0, .int 0, .int 0, .int 0, .null, .null, .null, .null, .null, .null, .null, .null, .null, .null, .int 0, .int 0, .int 0, .int 0, .int 0] := by decide +kernel
theorem df_6 : ab_df 6 = [.null, .null, .null, .null, .int 0] := by decide +kernel
theorem df_7 : ab_df 7 = [.int 0, .null] := by decide +kernel
theorem df_8 : ab_df 8 = [.int 0, .null, .null, .null] := by decide +kernel
theorem df_9 : ab_df 9 = [.null, .null] := by decide +kernel
theorem df_10 : ab_df 10 = [.int 0, .int 0, .int 0, .null, .null, .null, .null, .null] := by decide +kernel
theorem df_11 : ab_df 11 = [.null, .null, .null, .null, .null, .null, .null, .null, .int 0, .null, .null, .null, .null, .null, .int 0] := by decide +kernel
theorem df_12 : ab_df 12 = [.int 0, .null, .int 0, .null, .int 0, .null, .null, .null, .null, .null, .int 0, .int 0, .int 0, .int 0, .int 0, .int 0, .int 0, .int 0, .int 0, .int 0, .null, .null, .null, .null, .null, .null, .null, .null, .null, .null, .null, .null, .null, .null, .null, .null, .int 0, .null, .null, .null, .null, .null, .int 0, .null, .null, .null, .int 0, .null, .null, .int 0, .null, .null, .int 0, .int 0, .int 0, .null, .null, .null, .int 0, .null, .int 0, .null, .null, .int 0, .null, .int 0, .null, .null, .null, .null] := by decide +kernel
def ab_fin (ci k : Nat) : Bool := match vwCl[ci]? with
  | some r => (r.2.1 k).2.2.2
  | none => false
def ab_dcl (ci k : Nat) : String := match vwCl[ci]? with
  | some r => (r.2.1 k).1
  | none => ""
