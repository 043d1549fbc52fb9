theorem uX0 : ∀ w ∈ u_ws RX0 TX0 7, w ∈ gt := by
  have h0 : ∀ k, k < 7 → tables_1[([294, 296, 298, 300, 302, 304, 306] : List Nat).getD k 0]? = some (u_lay RX0 TX0 k) ∧ goodWord (u_lay RX0 TX0 k) = true := by decide +kernel
  intro w hw
  simp only [u_ws, List.mem_map, List.mem_range] at hw
  obtain ⟨k, hk, rfl⟩ := hw
  exact gt_t _ (h0 k hk).1 (h0 k hk).2
theorem uX1 : ∀ w ∈ u_ws RX1 TX1 6, w ∈ gt := by
  have h0 : ∀ k, k < 6 → tables_1[([324, 326, 328, 330, 332, 334] : List Nat).getD k 0]? = some (u_lay RX1 TX1 k) ∧ goodWord (u_lay RX1 TX1 k) = true := by decide +kernel
  intro w hw
  simp only [u_ws, List.mem_map, List.mem_range] at hw
  obtain ⟨k, hk, rfl⟩ := hw
  exact gt_t _ (h0 k hk).1 (h0 k hk).2
theorem uX2 : ∀ w ∈ u_ws RX2 TX2 7, w ∈ gt := by
  have h0 : ∀ k, k < 7 → tables_1[([200, 202, 204, 206, 208, 210, 212] : List Nat).getD k 0]? = some (u_lay RX2 TX2 k) ∧ goodWord (u_lay RX2 TX2 k) = true := by decide +kernel
  intro w hw
  simp only [u_ws, List.mem_map, List.mem_range] at hw
  obtain ⟨k, hk, rfl⟩ := hw
  exact gt_t _ (h0 k hk).1 (h0 k hk).2
theorem uX3 : ∀ w ∈ u_ws RX3 TX3 5, w ∈ gt := by
  have h0 : ∀ k, k < 5 → tables_1[([53, 55, 57, 59, 61] : List Nat).getD k 0]? = some (u_lay RX3 TX3 k) ∧ goodWord (u_lay RX3 TX3 k) = true := by decide +kernel
  intro w hw
  simp only [u_ws, List.mem_map, List.mem_range] at hw
  obtain ⟨k, hk, rfl⟩ := hw
  exact gt_t _ (h0 k hk).1 (h0 k hk).2
theorem uX4 : ∀ w ∈ u_ws RX4 TX4 9, w ∈ gt := by
  have h0 : ∀ k, k < 9 → tables_1[([258, 260, 262, 264, 266, 268, 270, 272, 274] : List Nat).getD k 0]? = some (u_lay RX4 TX4 k) ∧ goodWord (u_lay RX4 TX4 k) = true := by decide +kernel
  intro w hw
  simp only [u_ws, List.mem_map, List.mem_range] at hw
  obtain ⟨k, hk, rfl⟩ := hw
  exact gt_t _ (h0 k hk).1 (h0 k hk).2
theorem uX5 : ∀ w ∈ u_ws RX5 TX5 1, w ∈ gt := by
  have h0 : ∀ k, k < 1 → tables_1[([344] : List Nat).getD k 0]? = some (u_lay RX5 TX5 k) ∧ goodWord (u_lay RX5 TX5 k) = true := by decide +kernel
  intro w hw
  simp only [u_ws, List.mem_map, List.mem_range] at hw
  obtain ⟨k, hk, rfl⟩ := hw
  exact gt_t _ (h0 k hk).1 (h0 k hk).2
theorem uX6 : ∀ w ∈ u_ws RX6 TX6 5, w ∈ gt := by
  have h0 : ∀ k, k < 5 → tables_1[([221, 223, 225, 227, 229] : List Nat).getD k 0]? = some (u_lay RX6 TX6 k) ∧ goodWord (u_lay RX6 TX6 k) = true := by decide +kernel
  intro w hw
  simp only [u_ws, List.mem_map, List.mem_range] at hw
  obtain ⟨k, hk, rfl⟩ := hw
  exact gt_t _ (h0 k hk).1 (h0 k hk).2
theorem uX7 : ∀ w ∈ u_ws RX7 TX7 6, w ∈ gt := by
  have h0 : ∀ k, k < 6 → tables_1[([174, 176, 178, 180, 182, 184] : List Nat).getD k 0]? = some (u_lay RX7 TX7 k) ∧ goodWord (u_lay RX7 TX7 k) = true := by decide +kernel
  intro w hw
  simp only [u_ws, List.mem_map, List.mem_range] at hw
  obtain ⟨k, hk, rfl⟩ := hw
  exact gt_t _ (h0 k hk).1 (h0 k hk).2
theorem uX8 : ∀ w ∈ u_ws RX8 TX8 14, w ∈ gt := by
  have h0 : ∀ k, k < 14 → tables_1[([122, 124, 126, 128, 130, 132, 134, 136, 138, 140, 142, 144, 146, 148] : List Nat).getD k 0]? = some (u_lay RX8 TX8 k) ∧ goodWord (u_lay RX8 TX8 k) = true := by decide +kernel
  intro w hw
  simp only [u_ws, List.mem_map, List.mem_range] at hw
  obtain ⟨k, hk, rfl⟩ := hw
  exact gt_t _ (h0 k hk).1 (h0 k hk).2
theorem uX9 : ∀ w ∈ u_ws RX9 TX9 12, w ∈ gt := by
  have h0 : ∀ k, k < 12 → tables_1[([359, 361, 363, 365, 367, 369, 371, 373, 375, 377, 379, 381] : List Nat).getD k 0]? = some (u_lay RX9 TX9 k) ∧ goodWord (u_lay RX9 TX9 k) = true := by decide +kernel
  intro w hw
  simp only [u_ws, List.mem_map, List.mem_range] at hw
  obtain ⟨k, hk, rfl⟩ := hw
  exact gt_t _ (h0 k hk).1 (h0 k hk).2
theorem uX10 : ∀ w ∈ u_ws RX10 TX10 66, w ∈ gt := by
  have h0 : ∀ k, k < 66 → tables_1[([1247, 1249, 1251, 1253, 1255, 1257, 1259, 1261, 1263, 1265, 1267, 1269, 1271, 1273, 1275, 1277, 1279, 1281, 1283, 1285, 1287, 1289, 1291, 1293, 1295, 1297, 1299, 1301, 1303, 1305, 1307, 1309, 1311, 1313, 1315, 1317, 1319, 1321, 1323, 1325, 1327, 1329, 1331, 1333, 1335, 1337, 1339, 1341, 1343, 1345, 1347, 1349, 1351, 1353, 1355, 1357, 1359, 1361, 1363, 1365, 1367, 1369, 1371, 1373, 1375, 1377] : List Nat).getD k 0]? = some (u_lay RX10 TX10 k) ∧ goodWord (u_lay RX10 TX10 k) = true := by decide +kernel
  intro w hw
  simp only [u_ws, List.mem_map, List.mem_range] at hw
  obtain ⟨k, hk, rfl⟩ := hw
  exact gt_t _ (h0 k hk).1 (h0 k hk).2
theorem fd_ref {G : Gt} {S : St} {a j q k : Nat} (hq : kd q = k) (hc : k < 99) : fd G a (upd (S a) j (nI q)) j 2 = .ref (gR G q) := by
  have hl := kd_lt hq hc
  have hN : NC < 2 ^ 31 := by decide
  unfold fd upd
  rw [if_neg (by decide), if_neg (by decide), if_pos rfl]
  show Value.ref (gR G (nI q).toNatClampNeg) = _
  rw [nI_clamp (by omega)]
