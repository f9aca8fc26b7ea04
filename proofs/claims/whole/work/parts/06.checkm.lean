def pe_mh : List (List Nat) := [[226, 55], [289, 57], [689, 57], [694, 57], [700, 57], [710, 57], [714, 57], [719, 57], [723, 57], [727, 57], [133, 53], [481, 53], [263, 56], [556, 56], [477, 56], [486, 56], [498, 56], [521, 56], [506, 56], [510, 56], [526, 56], [534, 56], [543, 56], [547, 56], [551, 56], [539, 56], [490, 56], [502, 56], [530, 56], [514, 56], [174, 54], [78, 50], [348, 50], [360, 50], [368, 50], [102, 51], [388, 51], [392, 51], [402, 51], [406, 51], [473, 51], [410, 51], [415, 51], [395, 51], [398, 51], [127, 52], [637, 52], [618, 52], [494, 52], [560, 52], [566, 52], [578, 52], [582, 52], [602, 52], [653, 52], [742, 52], [817, 52], [821, 52], [826, 52], [69, 49], [335, 49], [356, 49], [364, 49], [375, 49], [379, 49], [384, 49], [606, 49], [610, 49], [614, 49], [633, 49], [641, 49], [649, 49], [661, 49], [668, 49], [673, 49], [677, 49], [681, 49], [685, 49], [706, 49], [731, 49], [738, 49], [747, 49], [753, 49], [805, 49], [809, 49], [830, 49], [343, 49], [352, 49], [813, 49], [338, 49], [622, 49], [626, 49], [518, 49], [572, 49], [734, 49], [592, 49], [664, 49], [589, 49], [657, 49], [629, 49], [585, 49], [569, 49], [645, 49], [765, 49], [757, 49], [781, 49], [769, 49], [761, 49], [773, 49], [777, 49], [801, 49], [789, 49], [785, 49], [793, 49], [797, 49], [835, 58], [982, 58], [988, 58], [978, 58], [975, 58], [993, 58], [997, 58], [1001, 58], [1005, 58], [1020, 58], [1023, 58], [1026, 58], [1016, 58], [1039, 58], [1046, 58], [1034, 58], [1054, 58], [1063, 58], [1068, 58], [1059, 58], [1050, 58], [1073, 58], [1077, 58], [1030, 58], [1012, 58], [1082, 58], [1089, 58], [1098, 58], [1114, 58], [1086, 58], [1103, 58], [1106, 58], [1094, 58], [1110, 58], [1126, 58], [1130, 58], [1122, 58], [1169, 58], [1118, 58], [1138, 58], [1134, 58], [1142, 58], [1148, 58], [1161, 58], [1157, 58], [1153, 58], [1165, 58], [1173, 58], [1185, 58], [1196, 58], [1181, 58], [1189, 58], [1177, 58], [1193, 58], [1200, 58], [1239, 58], [1208, 58], [1216, 58], [1204, 58], [1212, 58], [1232, 58], [1236, 58], [1228, 58], [1243, 58], [1224, 58], [1220, 58], [1247, 58], [1255, 58], [1251, 58], [1259, 58], [595, 64], [419, 60], [429, 60], [423, 60], [433, 60], [439, 60], [436, 61], [444, 62]]
theorem pe_m0 : ((List.range 6).drop 0).all (fun m => pe_mb m (pe_mh.getD m [])) = true := by decide +kernel
theorem pe_m6 : ((List.range 12).drop 6).all (fun m => pe_mb m (pe_mh.getD m [])) = true := by decide +kernel
theorem pe_m12 : ((List.range 18).drop 12).all (fun m => pe_mb m (pe_mh.getD m [])) = true := by decide +kernel
theorem pe_m18 : ((List.range 24).drop 18).all (fun m => pe_mb m (pe_mh.getD m [])) = true := by decide +kernel
theorem pe_m24 : ((List.range 30).drop 24).all (fun m => pe_mb m (pe_mh.getD m [])) = true := by decide +kernel
theorem pe_m30 : ((List.range 36).drop 30).all (fun m => pe_mb m (pe_mh.getD m [])) = true := by decide +kernel
theorem pe_m36 : ((List.range 42).drop 36).all (fun m => pe_mb m (pe_mh.getD m [])) = true := by decide +kernel
theorem pe_m42 : ((List.range 48).drop 42).all (fun m => pe_mb m (pe_mh.getD m [])) = true := by decide +kernel
theorem pe_m48 : ((List.range 54).drop 48).all (fun m => pe_mb m (pe_mh.getD m [])) = true := by decide +kernel
theorem pe_m54 : ((List.range 60).drop 54).all (fun m => pe_mb m (pe_mh.getD m [])) = true := by decide +kernel
theorem pe_m60 : ((List.range 66).drop 60).all (fun m => pe_mb m (pe_mh.getD m [])) = true := by decide +kernel
theorem pe_m66 : ((List.range 72).drop 66).all (fun m => pe_mb m (pe_mh.getD m [])) = true := by decide +kernel
theorem pe_m72 : ((List.range 78).drop 72).all (fun m => pe_mb m (pe_mh.getD m [])) = true := by decide +kernel
theorem pe_m78 : ((List.range 84).drop 78).all (fun m => pe_mb m (pe_mh.getD m [])) = true := by decide +kernel
theorem pe_m84 : ((List.range 90).drop 84).all (fun m => pe_mb m (pe_mh.getD m [])) = true := by decide +kernel
theorem pe_m90 : ((List.range 96).drop 90).all (fun m => pe_mb m (pe_mh.getD m [])) = true := by decide +kernel
theorem pe_m96 : ((List.range 102).drop 96).all (fun m => pe_mb m (pe_mh.getD m [])) = true := by decide +kernel
theorem pe_m102 : ((List.range 108).drop 102).all (fun m => pe_mb m (pe_mh.getD m [])) = true := by decide +kernel
theorem pe_m108 : ((List.range 114).drop 108).all (fun m => pe_mb m (pe_mh.getD m [])) = true := by decide +kernel
theorem pe_m114 : ((List.range 120).drop 114).all (fun m => pe_mb m (pe_mh.getD m [])) = true := by decide +kernel
theorem pe_m120 : ((List.range 126).drop 120).all (fun m => pe_mb m (pe_mh.getD m [])) = true := by decide +kernel
theorem pe_m126 : ((List.range 132).drop 126).all (fun m => pe_mb m (pe_mh.getD m [])) = true := by decide +kernel
theorem pe_m132 : ((List.range 138).drop 132).all (fun m => pe_mb m (pe_mh.getD m [])) = true := by decide +kernel
theorem pe_m138 : ((List.range 144).drop 138).all (fun m => pe_mb m (pe_mh.getD m [])) = true := by decide +kernel
theorem pe_m144 : ((List.range 150).drop 144).all (fun m => pe_mb m (pe_mh.getD m [])) = true := by decide +kernel
theorem pe_m150 : ((List.range 156).drop 150).all (fun m => pe_mb m (pe_mh.getD m [])) = true := by decide +kernel
theorem pe_m156 : ((List.range 162).drop 156).all (fun m => pe_mb m (pe_mh.getD m [])) = true := by decide +kernel
theorem pe_m162 : ((List.range 168).drop 162).all (fun m => pe_mb m (pe_mh.getD m [])) = true := by decide +kernel
theorem pe_m168 : ((List.range 174).drop 168).all (fun m => pe_mb m (pe_mh.getD m [])) = true := by decide +kernel
theorem pe_m174 : ((List.range 180).drop 174).all (fun m => pe_mb m (pe_mh.getD m [])) = true := by decide +kernel
theorem pe_m180 : ((List.range 186).drop 180).all (fun m => pe_mb m (pe_mh.getD m [])) = true := by decide +kernel
theorem pe_m186 : ((List.range 192).drop 186).all (fun m => pe_mb m (pe_mh.getD m [])) = true := by decide +kernel
theorem pe_m192 : ((List.range 193).drop 192).all (fun m => pe_mb m (pe_mh.getD m [])) = true := by decide +kernel
theorem pe_meth : ∀ m, m < 193 → ∀ n, (parseMethodDescriptor (pm m).2.1.desc).map (fun d => d.parameters.length) = some n → pe_call (pm m) n := by
  intro m hm n hn
  have key : ∀ a b, ((List.range b).drop a).all (fun m => pe_mb m (pe_mh.getD m [])) = true → a ≤ m → m < b → pe_call (pm m) n := fun a b h h1 h2 => pe_mb_ok (List.all_eq_true.mp h m (List.mem_of_getElem? (i := m - a) (by rw [List.getElem?_drop, List.getElem?_range (by omega)]; congr 1; omega))) hn
  rcases (by omega : (0 ≤ m ∧ m < 6) ∨ (6 ≤ m ∧ m < 12) ∨ (12 ≤ m ∧ m < 18) ∨ (18 ≤ m ∧ m < 24) ∨ (24 ≤ m ∧ m < 30) ∨ (30 ≤ m ∧ m < 36) ∨ (36 ≤ m ∧ m < 42) ∨ (42 ≤ m ∧ m < 48) ∨ (48 ≤ m ∧ m < 54) ∨ (54 ≤ m ∧ m < 60) ∨ (60 ≤ m ∧ m < 66) ∨ (66 ≤ m ∧ m < 72) ∨ (72 ≤ m ∧ m < 78) ∨ (78 ≤ m ∧ m < 84) ∨ (84 ≤ m ∧ m < 90) ∨ (90 ≤ m ∧ m < 96) ∨ (96 ≤ m ∧ m < 102) ∨ (102 ≤ m ∧ m < 108) ∨ (108 ≤ m ∧ m < 114) ∨ (114 ≤ m ∧ m < 120) ∨ (120 ≤ m ∧ m < 126) ∨ (126 ≤ m ∧ m < 132) ∨ (132 ≤ m ∧ m < 138) ∨ (138 ≤ m ∧ m < 144) ∨ (144 ≤ m ∧ m < 150) ∨ (150 ≤ m ∧ m < 156) ∨ (156 ≤ m ∧ m < 162) ∨ (162 ≤ m ∧ m < 168) ∨ (168 ≤ m ∧ m < 174) ∨ (174 ≤ m ∧ m < 180) ∨ (180 ≤ m ∧ m < 186) ∨ (186 ≤ m ∧ m < 192) ∨ (192 ≤ m ∧ m < 193)) with h | h | h | h | h | h | h | h | h | h | h | h | h | h | h | h | h | h | h | h | h | h | h | h | h | h | h | h | h | h | h | h | h
  · exact key _ _ pe_m0 h.1 h.2
  · exact key _ _ pe_m6 h.1 h.2
  · exact key _ _ pe_m12 h.1 h.2
  · exact key _ _ pe_m18 h.1 h.2
  · exact key _ _ pe_m24 h.1 h.2
  · exact key _ _ pe_m30 h.1 h.2
  · exact key _ _ pe_m36 h.1 h.2
  · exact key _ _ pe_m42 h.1 h.2
  · exact key _ _ pe_m48 h.1 h.2
  · exact key _ _ pe_m54 h.1 h.2
  · exact key _ _ pe_m60 h.1 h.2
  · exact key _ _ pe_m66 h.1 h.2
  · exact key _ _ pe_m72 h.1 h.2
  · exact key _ _ pe_m78 h.1 h.2
  · exact key _ _ pe_m84 h.1 h.2
  · exact key _ _ pe_m90 h.1 h.2
  · exact key _ _ pe_m96 h.1 h.2
  · exact key _ _ pe_m102 h.1 h.2
  · exact key _ _ pe_m108 h.1 h.2
  · exact key _ _ pe_m114 h.1 h.2
  · exact key _ _ pe_m120 h.1 h.2
  · exact key _ _ pe_m126 h.1 h.2
  · exact key _ _ pe_m132 h.1 h.2
  · exact key _ _ pe_m138 h.1 h.2
  · exact key _ _ pe_m144 h.1 h.2
  · exact key _ _ pe_m150 h.1 h.2
  · exact key _ _ pe_m156 h.1 h.2
  · exact key _ _ pe_m162 h.1 h.2
  · exact key _ _ pe_m168 h.1 h.2
  · exact key _ _ pe_m174 h.1 h.2
  · exact key _ _ pe_m180 h.1 h.2
  · exact key _ _ pe_m186 h.1 h.2
  · exact key _ _ pe_m192 h.1 h.2
