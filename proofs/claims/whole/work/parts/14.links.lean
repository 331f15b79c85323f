theorem fo_X5_9 : mOkF RX5 9 5 0 := ⟨_, rfl, Nat.le_of_ble_eq_true rfl, gw_31⟩
theorem fo_X8_102 : mOkF RX8 102 5 1 := ⟨_, rfl, Nat.le_of_ble_eq_true rfl, gw_32⟩
theorem fo_X5_15 : mOkF RX5 15 5 1 := ⟨_, rfl, Nat.le_of_ble_eq_true rfl, gw_33⟩
theorem fo_X2_38 : mOkF RX2 38 5 1 := ⟨_, rfl, Nat.le_of_ble_eq_true rfl, gw_34⟩
theorem fo_X3_7 : mOkF RX3 7 3 0 := ⟨_, rfl, Nat.le_of_ble_eq_true rfl, gw_59⟩
theorem fo_X1_14 : mOkF RX1 14 1 0 := ⟨_, rfl, Nat.le_of_ble_eq_true rfl, gw_63⟩
theorem fo_X7_50 : mOkF RX7 50 1 0 := ⟨_, rfl, Nat.le_of_ble_eq_true rfl, gw_64⟩
theorem fo_X2_74 : mOkF RX2 74 1 0 := ⟨_, rfl, Nat.le_of_ble_eq_true rfl, gw_65⟩
theorem fo_X0_45 : mOkF RX0 45 1 0 := ⟨_, rfl, Nat.le_of_ble_eq_true rfl, gw_66⟩
theorem fo_X8_119 : mOkF RX8 119 1 0 := ⟨_, rfl, Nat.le_of_ble_eq_true rfl, gw_67⟩
theorem fo_X1_20 : mOkF RX1 20 1 1 := ⟨_, rfl, Nat.le_of_ble_eq_true rfl, gw_68⟩
theorem fo_X2_100 : mOkF RX2 100 1 1 := ⟨_, rfl, Nat.le_of_ble_eq_true rfl, gw_69⟩
theorem fo_X0_54 : mOkF RX0 54 1 1 := ⟨_, rfl, Nat.le_of_ble_eq_true rfl, gw_70⟩
theorem fo_X8_143 : mOkF RX8 143 1 1 := ⟨_, rfl, Nat.le_of_ble_eq_true rfl, gw_71⟩
theorem fo_X1_23 : mOkF RX1 23 1 2 := ⟨_, rfl, Nat.le_of_ble_eq_true rfl, gw_72⟩
theorem fo_X7_68 : mOkF RX7 68 1 2 := ⟨_, rfl, Nat.le_of_ble_eq_true rfl, gw_73⟩
theorem fo_X1_26 : mOkF RX1 26 1 3 := ⟨_, rfl, Nat.le_of_ble_eq_true rfl, gw_74⟩
theorem fo_X7_23 : mOkF RX7 23 1 3 := ⟨_, rfl, Nat.le_of_ble_eq_true rfl, gw_75⟩
theorem fo_X2_77 : mOkF RX2 77 1 3 := ⟨_, rfl, Nat.le_of_ble_eq_true rfl, gw_76⟩
theorem fo_X8_113 : mOkF RX8 113 1 3 := ⟨_, rfl, Nat.le_of_ble_eq_true rfl, gw_77⟩
theorem fo_X2_87 : mOkF RX2 87 1 4 := ⟨_, rfl, Nat.le_of_ble_eq_true rfl, gw_78⟩
theorem fo_X1_36 : mOkF RX1 36 1 4 := ⟨_, rfl, Nat.le_of_ble_eq_true rfl, gw_79⟩
theorem fo_X8_276 : mOkF RX8 276 1 4 := ⟨_, rfl, Nat.le_of_ble_eq_true rfl, gw_80⟩
theorem fo_X2_84 : mOkF RX2 84 1 5 := ⟨_, rfl, Nat.le_of_ble_eq_true rfl, gw_81⟩
theorem fo_X1_39 : mOkF RX1 39 1 5 := ⟨_, rfl, Nat.le_of_ble_eq_true rfl, gw_82⟩
theorem fo_X1_30 : mOkF RX1 30 1 6 := ⟨_, rfl, Nat.le_of_ble_eq_true rfl, gw_83⟩
theorem fo_X2_97 : mOkF RX2 97 1 6 := ⟨_, rfl, Nat.le_of_ble_eq_true rfl, gw_84⟩
theorem fo_X8_225 : mOkF RX8 225 1 6 := ⟨_, rfl, Nat.le_of_ble_eq_true rfl, gw_85⟩
theorem fo_X1_33 : mOkF RX1 33 1 7 := ⟨_, rfl, Nat.le_of_ble_eq_true rfl, gw_86⟩
theorem fo_X0_57 : mOkF RX0 57 1 7 := ⟨_, rfl, Nat.le_of_ble_eq_true rfl, gw_87⟩
theorem fo_X2_114 : mOkF RX2 114 1 7 := ⟨_, rfl, Nat.le_of_ble_eq_true rfl, gw_88⟩
theorem fo_X8_279 : mOkF RX8 279 1 7 := ⟨_, rfl, Nat.le_of_ble_eq_true rfl, gw_89⟩
theorem fo_X6_9 : mOkF RX6 9 6 0 := ⟨_, rfl, Nat.le_of_ble_eq_true rfl, gw_122⟩
theorem fo_X8_153 : mOkF RX8 153 6 0 := ⟨_, rfl, Nat.le_of_ble_eq_true rfl, gw_123⟩
theorem fo_X6_28 : mOkF RX6 28 6 1 := ⟨_, rfl, Nat.le_of_ble_eq_true rfl, gw_124⟩
theorem fo_X8_156 : mOkF RX8 156 6 1 := ⟨_, rfl, Nat.le_of_ble_eq_true rfl, gw_125⟩
theorem fo_X6_21 : mOkF RX6 21 6 2 := ⟨_, rfl, Nat.le_of_ble_eq_true rfl, gw_126⟩
theorem fo_X8_159 : mOkF RX8 159 6 2 := ⟨_, rfl, Nat.le_of_ble_eq_true rfl, gw_127⟩
theorem fo_X6_31 : mOkF RX6 31 6 3 := ⟨_, rfl, Nat.le_of_ble_eq_true rfl, gw_128⟩
theorem fo_X0_63 : mOkF RX0 63 6 3 := ⟨_, rfl, Nat.le_of_ble_eq_true rfl, gw_129⟩
theorem fo_X8_162 : mOkF RX8 162 6 3 := ⟨_, rfl, Nat.le_of_ble_eq_true rfl, gw_130⟩
theorem fo_X6_15 : mOkF RX6 15 6 4 := ⟨_, rfl, Nat.le_of_ble_eq_true rfl, gw_131⟩
theorem fo_X8_168 : mOkF RX8 168 6 4 := ⟨_, rfl, Nat.le_of_ble_eq_true rfl, gw_132⟩
theorem fo_X6_18 : mOkF RX6 18 6 5 := ⟨_, rfl, Nat.le_of_ble_eq_true rfl, gw_133⟩
theorem fo_X8_171 : mOkF RX8 171 6 5 := ⟨_, rfl, Nat.le_of_ble_eq_true rfl, gw_134⟩
theorem fo_X0_14 : mOkF RX0 14 0 0 := ⟨_, rfl, Nat.le_of_ble_eq_true rfl, gw_148⟩
theorem fo_X0_22 : mOkF RX0 22 0 1 := ⟨_, rfl, Nat.le_of_ble_eq_true rfl, gw_149⟩
theorem fo_X7_35 : mOkF RX7 35 0 2 := ⟨_, rfl, Nat.le_of_ble_eq_true rfl, gw_150⟩
theorem fo_X0_30 : mOkF RX0 30 0 2 := ⟨_, rfl, Nat.le_of_ble_eq_true rfl, gw_151⟩
theorem fo_X8_136 : mOkF RX8 136 0 2 := ⟨_, rfl, Nat.le_of_ble_eq_true rfl, gw_152⟩
theorem fo_X2_126 : mOkF RX2 126 0 2 := ⟨_, rfl, Nat.le_of_ble_eq_true rfl, gw_153⟩
theorem fo_X0_34 : mOkF RX0 34 0 3 := ⟨_, rfl, Nat.le_of_ble_eq_true rfl, gw_154⟩
theorem fo_X8_195 : mOkF RX8 195 0 3 := ⟨_, rfl, Nat.le_of_ble_eq_true rfl, gw_155⟩
theorem fo_X2_12 : mOkF RX2 12 2 0 := ⟨_, rfl, Nat.le_of_ble_eq_true rfl, gw_167⟩
theorem fo_X8_285 : mOkF RX8 285 2 0 := ⟨_, rfl, Nat.le_of_ble_eq_true rfl, gw_168⟩
theorem fo_X2_21 : mOkF RX2 21 2 1 := ⟨_, rfl, Nat.le_of_ble_eq_true rfl, gw_169⟩
theorem fo_X8_292 : mOkF RX8 292 2 1 := ⟨_, rfl, Nat.le_of_ble_eq_true rfl, gw_170⟩
theorem fo_X2_30 : mOkF RX2 30 2 2 := ⟨_, rfl, Nat.le_of_ble_eq_true rfl, gw_171⟩
theorem fo_X4_9 : mOkF RX4 9 4 0 := ⟨_, rfl, Nat.le_of_ble_eq_true rfl, gw_192⟩
theorem fo_X4_16 : mOkF RX4 16 4 1 := ⟨_, rfl, Nat.le_of_ble_eq_true rfl, gw_193⟩
theorem fo_X8_209 : mOkF RX8 209 4 1 := ⟨_, rfl, Nat.le_of_ble_eq_true rfl, gw_194⟩
theorem fo_X7_14 : mOkF RX7 14 7 0 := ⟨_, rfl, Nat.le_of_ble_eq_true rfl, gw_212⟩
theorem fo_X7_20 : mOkF RX7 20 7 1 := ⟨_, rfl, Nat.le_of_ble_eq_true rfl, gw_213⟩
theorem fo_X8_10 : mOkF RX8 10 8 0 := ⟨_, rfl, Nat.le_of_ble_eq_true rfl, gw_395⟩
theorem fo_X8_19 : mOkF RX8 19 8 1 := ⟨_, rfl, Nat.le_of_ble_eq_true rfl, gw_396⟩
theorem fo_X8_26 : mOkF RX8 26 8 2 := ⟨_, rfl, Nat.le_of_ble_eq_true rfl, gw_397⟩
theorem fo_X8_33 : mOkF RX8 33 8 3 := ⟨_, rfl, Nat.le_of_ble_eq_true rfl, gw_398⟩
theorem fo_X8_42 : mOkF RX8 42 8 4 := ⟨_, rfl, Nat.le_of_ble_eq_true rfl, gw_399⟩
theorem fo_X8_46 : mOkF RX8 46 8 5 := ⟨_, rfl, Nat.le_of_ble_eq_true rfl, gw_400⟩
theorem fo_X8_52 : mOkF RX8 52 8 6 := ⟨_, rfl, Nat.le_of_ble_eq_true rfl, gw_401⟩
theorem fo_X8_56 : mOkF RX8 56 8 7 := ⟨_, rfl, Nat.le_of_ble_eq_true rfl, gw_402⟩
theorem fo_X8_242 : mOkF RX8 242 8 8 := ⟨_, rfl, Nat.le_of_ble_eq_true rfl, gw_403⟩
theorem fo_X8_59 : mOkF RX8 59 8 9 := ⟨_, rfl, Nat.le_of_ble_eq_true rfl, gw_404⟩
theorem fo_X8_65 : mOkF RX8 65 8 10 := ⟨_, rfl, Nat.le_of_ble_eq_true rfl, gw_405⟩
theorem fo_X8_69 : mOkF RX8 69 8 11 := ⟨_, rfl, Nat.le_of_ble_eq_true rfl, gw_406⟩
theorem fo_X8_75 : mOkF RX8 75 8 12 := ⟨_, rfl, Nat.le_of_ble_eq_true rfl, gw_407⟩
theorem fo_X8_79 : mOkF RX8 79 8 13 := ⟨_, rfl, Nat.le_of_ble_eq_true rfl, gw_408⟩
theorem fo_X9_85 : mOkF RX9 85 9 0 := ⟨_, rfl, Nat.le_of_ble_eq_true rfl, gw_757⟩
theorem fo_X9_88 : mOkF RX9 88 9 1 := ⟨_, rfl, Nat.le_of_ble_eq_true rfl, gw_758⟩
theorem fo_X9_7 : mOkF RX9 7 9 2 := ⟨_, rfl, Nat.le_of_ble_eq_true rfl, gw_759⟩
theorem fo_X9_91 : mOkF RX9 91 9 3 := ⟨_, rfl, Nat.le_of_ble_eq_true rfl, gw_760⟩
theorem fo_X9_13 : mOkF RX9 13 9 4 := ⟨_, rfl, Nat.le_of_ble_eq_true rfl, gw_761⟩
theorem fo_X9_94 : mOkF RX9 94 9 5 := ⟨_, rfl, Nat.le_of_ble_eq_true rfl, gw_762⟩
theorem fo_X9_16 : mOkF RX9 16 9 6 := ⟨_, rfl, Nat.le_of_ble_eq_true rfl, gw_763⟩
theorem fo_X9_19 : mOkF RX9 19 9 7 := ⟨_, rfl, Nat.le_of_ble_eq_true rfl, gw_764⟩
theorem fo_X9_22 : mOkF RX9 22 9 8 := ⟨_, rfl, Nat.le_of_ble_eq_true rfl, gw_765⟩
theorem fo_X9_101 : mOkF RX9 101 9 9 := ⟨_, rfl, Nat.le_of_ble_eq_true rfl, gw_766⟩
theorem fo_X9_25 : mOkF RX9 25 9 10 := ⟨_, rfl, Nat.le_of_ble_eq_true rfl, gw_767⟩
theorem fo_X9_104 : mOkF RX9 104 9 11 := ⟨_, rfl, Nat.le_of_ble_eq_true rfl, gw_768⟩
theorem fo_X9_28 : mOkF RX9 28 9 12 := ⟨_, rfl, Nat.le_of_ble_eq_true rfl, gw_769⟩
theorem fo_X9_107 : mOkF RX9 107 9 13 := ⟨_, rfl, Nat.le_of_ble_eq_true rfl, gw_770⟩
theorem fo_X9_31 : mOkF RX9 31 9 14 := ⟨_, rfl, Nat.le_of_ble_eq_true rfl, gw_771⟩
theorem fo_X9_118 : mOkF RX9 118 9 15 := ⟨_, rfl, Nat.le_of_ble_eq_true rfl, gw_772⟩
theorem fo_X9_76 : mOkF RX9 76 9 16 := ⟨_, rfl, Nat.le_of_ble_eq_true rfl, gw_773⟩
theorem fo_X9_79 : mOkF RX9 79 9 17 := ⟨_, rfl, Nat.le_of_ble_eq_true rfl, gw_774⟩
theorem fo_X9_34 : mOkF RX9 34 9 18 := ⟨_, rfl, Nat.le_of_ble_eq_true rfl, gw_775⟩
theorem fo_X9_62 : mOkF RX9 62 9 19 := ⟨_, rfl, Nat.le_of_ble_eq_true rfl, gw_776⟩
theorem fo_X9_37 : mOkF RX9 37 9 20 := ⟨_, rfl, Nat.le_of_ble_eq_true rfl, gw_777⟩
theorem fo_X9_40 : mOkF RX9 40 9 21 := ⟨_, rfl, Nat.le_of_ble_eq_true rfl, gw_778⟩
theorem fo_X9_82 : mOkF RX9 82 9 22 := ⟨_, rfl, Nat.le_of_ble_eq_true rfl, gw_779⟩
theorem fo_X9_43 : mOkF RX9 43 9 23 := ⟨_, rfl, Nat.le_of_ble_eq_true rfl, gw_780⟩
theorem fo_X9_46 : mOkF RX9 46 9 24 := ⟨_, rfl, Nat.le_of_ble_eq_true rfl, gw_781⟩
theorem fo_X9_49 : mOkF RX9 49 9 25 := ⟨_, rfl, Nat.le_of_ble_eq_true rfl, gw_782⟩
theorem fo_X9_70 : mOkF RX9 70 9 26 := ⟨_, rfl, Nat.le_of_ble_eq_true rfl, gw_783⟩
theorem fo_X9_121 : mOkF RX9 121 9 27 := ⟨_, rfl, Nat.le_of_ble_eq_true rfl, gw_784⟩
theorem fo_X9_136 : mOkF RX9 136 9 28 := ⟨_, rfl, Nat.le_of_ble_eq_true rfl, gw_785⟩
theorem fo_X9_52 : mOkF RX9 52 9 29 := ⟨_, rfl, Nat.le_of_ble_eq_true rfl, gw_786⟩
theorem fp_0_0 : ∀ q : vw_C, mcl[0]? = some q → (q.2.1 0).2.2.2 = true ∧ (q.2.1 0).1 = RX0 := fun q h => by cases h; exact ⟨rfl, rfl⟩
theorem fp_0_1 : ∀ q : vw_C, mcl[0]? = some q → (q.2.1 1).2.2.2 = true ∧ (q.2.1 1).1 = RX0 := fun q h => by cases h; exact ⟨rfl, rfl⟩
theorem fp_0_2 : ∀ q : vw_C, mcl[0]? = some q → (q.2.1 2).2.2.2 = false ∧ (q.2.1 2).2.2.1 = "I" := fun q h => by cases h; exact ⟨rfl, rfl⟩
theorem fp_0_3 : ∀ q : vw_C, mcl[0]? = some q → (q.2.1 3).2.2.2 = false ∧ (q.2.1 3).2.2.1 = "I" := fun q h => by cases h; exact ⟨rfl, rfl⟩
theorem fp_1_0 : ∀ q : vw_C, mcl[1]? = some q → (q.2.1 0).2.2.2 = true ∧ (q.2.1 0).1 = RX1 := fun q h => by cases h; exact ⟨rfl, rfl⟩
theorem fp_1_1 : ∀ q : vw_C, mcl[1]? = some q → (q.2.1 1).2.2.2 = true ∧ (q.2.1 1).1 = RX1 := fun q h => by cases h; exact ⟨rfl, rfl⟩
theorem fp_1_2 : ∀ q : vw_C, mcl[1]? = some q → (q.2.1 2).2.2.2 = true ∧ (q.2.1 2).1 = RX1 := fun q h => by cases h; exact ⟨rfl, rfl⟩
theorem fp_1_3 : ∀ q : vw_C, mcl[1]? = some q → (q.2.1 3).2.2.2 = false ∧ (q.2.1 3).2.2.1 = "I" := fun q h => by cases h; exact ⟨rfl, rfl⟩
theorem fp_1_4 : ∀ q : vw_C, mcl[1]? = some q → (q.2.1 4).2.2.2 = false ∧ (q.2.1 4).2.2.1 = "I" := fun q h => by cases h; exact ⟨rfl, rfl⟩
theorem fp_1_5 : ∀ q : vw_C, mcl[1]? = some q → (q.2.1 5).2.2.2 = false ∧ (q.2.1 5).2.2.1 = "I" := fun q h => by cases h; exact ⟨rfl, rfl⟩
theorem fp_1_6 : ∀ q : vw_C, mcl[1]? = some q → (q.2.1 6).2.2.2 = false ∧ (q.2.1 6).2.2.1 = "I" := fun q h => by cases h; exact ⟨rfl, rfl⟩
theorem fp_1_7 : ∀ q : vw_C, mcl[1]? = some q → (q.2.1 7).2.2.2 = false ∧ (q.2.1 7).2.2.1 = "I" := fun q h => by cases h; exact ⟨rfl, rfl⟩
theorem fp_2_0 : ∀ q : vw_C, mcl[2]? = some q → (q.2.1 0).2.2.2 = true ∧ (q.2.1 0).1 = RX2 := fun q h => by cases h; exact ⟨rfl, rfl⟩
theorem fp_2_1 : ∀ q : vw_C, mcl[2]? = some q → (q.2.1 1).2.2.2 = true ∧ (q.2.1 1).1 = RX2 := fun q h => by cases h; exact ⟨rfl, rfl⟩
theorem fp_2_2 : ∀ q : vw_C, mcl[2]? = some q → (q.2.1 2).2.2.2 = true ∧ (q.2.1 2).1 = RX2 := fun q h => by cases h; exact ⟨rfl, rfl⟩
theorem fp_3_0 : ∀ q : vw_C, mcl[3]? = some q → (q.2.1 0).2.2.2 = true ∧ (q.2.1 0).1 = RX3 := fun q h => by cases h; exact ⟨rfl, rfl⟩
theorem fp_4_0 : ∀ q : vw_C, mcl[4]? = some q → (q.2.1 0).2.2.2 = true ∧ (q.2.1 0).1 = RX4 := fun q h => by cases h; exact ⟨rfl, rfl⟩
theorem fp_4_1 : ∀ q : vw_C, mcl[4]? = some q → (q.2.1 1).2.2.2 = false ∧ (q.2.1 1).2.2.1 = "I" := fun q h => by cases h; exact ⟨rfl, rfl⟩
theorem fp_5_0 : ∀ q : vw_C, mcl[5]? = some q → (q.2.1 0).2.2.2 = true ∧ (q.2.1 0).1 = RX5 := fun q h => by cases h; exact ⟨rfl, rfl⟩
theorem fp_5_1 : ∀ q : vw_C, mcl[5]? = some q → (q.2.1 1).2.2.2 = false ∧ (q.2.1 1).2.2.1 = "I" := fun q h => by cases h; exact ⟨rfl, rfl⟩
theorem fp_6_0 : ∀ q : vw_C, mcl[6]? = some q → (q.2.1 0).2.2.2 = false ∧ (q.2.1 0).2.2.1 = "I" := fun q h => by cases h; exact ⟨rfl, rfl⟩
theorem fp_6_1 : ∀ q : vw_C, mcl[6]? = some q → (q.2.1 1).2.2.2 = false ∧ (q.2.1 1).2.2.1 = "I" := fun q h => by cases h; exact ⟨rfl, rfl⟩
theorem fp_6_2 : ∀ q : vw_C, mcl[6]? = some q → (q.2.1 2).2.2.2 = false ∧ (q.2.1 2).2.2.1 = "I" := fun q h => by cases h; exact ⟨rfl, rfl⟩
theorem fp_6_3 : ∀ q : vw_C, mcl[6]? = some q → (q.2.1 3).2.2.2 = false ∧ (q.2.1 3).2.2.1 = "I" := fun q h => by cases h; exact ⟨rfl, rfl⟩
theorem fp_6_4 : ∀ q : vw_C, mcl[6]? = some q → (q.2.1 4).2.2.2 = false ∧ (q.2.1 4).2.2.1 = "I" := fun q h => by cases h; exact ⟨rfl, rfl⟩
theorem fp_6_5 : ∀ q : vw_C, mcl[6]? = some q → (q.2.1 5).2.2.2 = false ∧ (q.2.1 5).2.2.1 = "I" := fun q h => by cases h; exact ⟨rfl, rfl⟩
theorem fp_7_0 : ∀ q : vw_C, mcl[7]? = some q → (q.2.1 0).2.2.2 = true ∧ (q.2.1 0).1 = RX7 := fun q h => by cases h; exact ⟨rfl, rfl⟩
theorem fp_7_1 : ∀ q : vw_C, mcl[7]? = some q → (q.2.1 1).2.2.2 = true ∧ (q.2.1 1).1 = RX7 := fun q h => by cases h; exact ⟨rfl, rfl⟩
theorem fp_8_0 : ∀ q : vw_C, mcl[8]? = some q → (q.2.1 0).2.2.2 = true ∧ (q.2.1 0).1 = RX8 := fun q h => by cases h; exact ⟨rfl, rfl⟩
theorem fp_8_1 : ∀ q : vw_C, mcl[8]? = some q → (q.2.1 1).2.2.2 = true ∧ (q.2.1 1).1 = RX8 := fun q h => by cases h; exact ⟨rfl, rfl⟩
theorem fp_8_2 : ∀ q : vw_C, mcl[8]? = some q → (q.2.1 2).2.2.2 = true ∧ (q.2.1 2).1 = RX8 := fun q h => by cases h; exact ⟨rfl, rfl⟩
theorem fp_8_3 : ∀ q : vw_C, mcl[8]? = some q → (q.2.1 3).2.2.2 = true ∧ (q.2.1 3).1 = RX8 := fun q h => by cases h; exact ⟨rfl, rfl⟩
theorem fp_8_4 : ∀ q : vw_C, mcl[8]? = some q → (q.2.1 4).2.2.2 = true ∧ (q.2.1 4).1 = RX8 := fun q h => by cases h; exact ⟨rfl, rfl⟩
theorem fp_8_5 : ∀ q : vw_C, mcl[8]? = some q → (q.2.1 5).2.2.2 = true ∧ (q.2.1 5).1 = RX8 := fun q h => by cases h; exact ⟨rfl, rfl⟩
theorem fp_8_6 : ∀ q : vw_C, mcl[8]? = some q → (q.2.1 6).2.2.2 = true ∧ (q.2.1 6).1 = RX8 := fun q h => by cases h; exact ⟨rfl, rfl⟩
theorem fp_8_7 : ∀ q : vw_C, mcl[8]? = some q → (q.2.1 7).2.2.2 = true ∧ (q.2.1 7).1 = RX8 := fun q h => by cases h; exact ⟨rfl, rfl⟩
theorem fp_8_8 : ∀ q : vw_C, mcl[8]? = some q → (q.2.1 8).2.2.2 = false ∧ (q.2.1 8).2.2.1 = "I" := fun q h => by cases h; exact ⟨rfl, rfl⟩
theorem fp_8_9 : ∀ q : vw_C, mcl[8]? = some q → (q.2.1 9).2.2.2 = true ∧ (q.2.1 9).1 = RX8 := fun q h => by cases h; exact ⟨rfl, rfl⟩
theorem fp_8_10 : ∀ q : vw_C, mcl[8]? = some q → (q.2.1 10).2.2.2 = true ∧ (q.2.1 10).1 = RX8 := fun q h => by cases h; exact ⟨rfl, rfl⟩
theorem fp_8_11 : ∀ q : vw_C, mcl[8]? = some q → (q.2.1 11).2.2.2 = true ∧ (q.2.1 11).1 = RX8 := fun q h => by cases h; exact ⟨rfl, rfl⟩
theorem fp_8_12 : ∀ q : vw_C, mcl[8]? = some q → (q.2.1 12).2.2.2 = true ∧ (q.2.1 12).1 = RX8 := fun q h => by cases h; exact ⟨rfl, rfl⟩
theorem fp_8_13 : ∀ q : vw_C, mcl[8]? = some q → (q.2.1 13).2.2.2 = true ∧ (q.2.1 13).1 = RX8 := fun q h => by cases h; exact ⟨rfl, rfl⟩
theorem fp_9_0 : ∀ q : vw_C, mcl[9]? = some q → (q.2.1 0).2.2.2 = false ∧ (q.2.1 0).2.2.1 = "I" := fun q h => by cases h; exact ⟨rfl, rfl⟩
theorem fp_9_1 : ∀ q : vw_C, mcl[9]? = some q → (q.2.1 1).2.2.2 = false ∧ (q.2.1 1).2.2.1 = "I" := fun q h => by cases h; exact ⟨rfl, rfl⟩
theorem fp_9_2 : ∀ q : vw_C, mcl[9]? = some q → (q.2.1 2).2.2.2 = true ∧ (q.2.1 2).1 = RX9 := fun q h => by cases h; exact ⟨rfl, rfl⟩
theorem fp_9_3 : ∀ q : vw_C, mcl[9]? = some q → (q.2.1 3).2.2.2 = false ∧ (q.2.1 3).2.2.1 = "I" := fun q h => by cases h; exact ⟨rfl, rfl⟩
theorem fp_9_4 : ∀ q : vw_C, mcl[9]? = some q → (q.2.1 4).2.2.2 = true ∧ (q.2.1 4).1 = RX9 := fun q h => by cases h; exact ⟨rfl, rfl⟩
theorem fp_9_5 : ∀ q : vw_C, mcl[9]? = some q → (q.2.1 5).2.2.2 = false ∧ (q.2.1 5).2.2.1 = "I" := fun q h => by cases h; exact ⟨rfl, rfl⟩
theorem fp_9_6 : ∀ q : vw_C, mcl[9]? = some q → (q.2.1 6).2.2.2 = true ∧ (q.2.1 6).1 = RX9 := fun q h => by cases h; exact ⟨rfl, rfl⟩
theorem fp_9_7 : ∀ q : vw_C, mcl[9]? = some q → (q.2.1 7).2.2.2 = true ∧ (q.2.1 7).1 = RX9 := fun q h => by cases h; exact ⟨rfl, rfl⟩
theorem fp_9_8 : ∀ q : vw_C, mcl[9]? = some q → (q.2.1 8).2.2.2 = true ∧ (q.2.1 8).1 = RX9 := fun q h => by cases h; exact ⟨rfl, rfl⟩
theorem fp_9_9 : ∀ q : vw_C, mcl[9]? = some q → (q.2.1 9).2.2.2 = false ∧ (q.2.1 9).2.2.1 = "I" := fun q h => by cases h; exact ⟨rfl, rfl⟩
theorem fp_9_10 : ∀ q : vw_C, mcl[9]? = some q → (q.2.1 10).2.2.2 = true ∧ (q.2.1 10).1 = RX9 := fun q h => by cases h; exact ⟨rfl, rfl⟩
theorem fp_9_11 : ∀ q : vw_C, mcl[9]? = some q → (q.2.1 11).2.2.2 = false ∧ (q.2.1 11).2.2.1 = "I" := fun q h => by cases h; exact ⟨rfl, rfl⟩
theorem fp_9_12 : ∀ q : vw_C, mcl[9]? = some q → (q.2.1 12).2.2.2 = true ∧ (q.2.1 12).1 = RX9 := fun q h => by cases h; exact ⟨rfl, rfl⟩
theorem fp_9_13 : ∀ q : vw_C, mcl[9]? = some q → (q.2.1 13).2.2.2 = false ∧ (q.2.1 13).2.2.1 = "I" := fun q h => by cases h; exact ⟨rfl, rfl⟩
theorem fp_9_14 : ∀ q : vw_C, mcl[9]? = some q → (q.2.1 14).2.2.2 = true ∧ (q.2.1 14).1 = RX9 := fun q h => by cases h; exact ⟨rfl, rfl⟩
theorem fp_9_15 : ∀ q : vw_C, mcl[9]? = some q → (q.2.1 15).2.2.2 = false ∧ (q.2.1 15).2.2.1 = "I" := fun q h => by cases h; exact ⟨rfl, rfl⟩
theorem fp_9_16 : ∀ q : vw_C, mcl[9]? = some q → (q.2.1 16).2.2.2 = false ∧ (q.2.1 16).2.2.1 = "I" := fun q h => by cases h; exact ⟨rfl, rfl⟩
theorem fp_9_17 : ∀ q : vw_C, mcl[9]? = some q → (q.2.1 17).2.2.2 = false ∧ (q.2.1 17).2.2.1 = "I" := fun q h => by cases h; exact ⟨rfl, rfl⟩
theorem fp_9_18 : ∀ q : vw_C, mcl[9]? = some q → (q.2.1 18).2.2.2 = true ∧ (q.2.1 18).1 = RX9 := fun q h => by cases h; exact ⟨rfl, rfl⟩
theorem fp_9_19 : ∀ q : vw_C, mcl[9]? = some q → (q.2.1 19).2.2.2 = false ∧ (q.2.1 19).2.2.1 = "I" := fun q h => by cases h; exact ⟨rfl, rfl⟩
theorem fp_9_20 : ∀ q : vw_C, mcl[9]? = some q → (q.2.1 20).2.2.2 = true ∧ (q.2.1 20).1 = RX9 := fun q h => by cases h; exact ⟨rfl, rfl⟩
theorem fp_9_21 : ∀ q : vw_C, mcl[9]? = some q → (q.2.1 21).2.2.2 = true ∧ (q.2.1 21).1 = RX9 := fun q h => by cases h; exact ⟨rfl, rfl⟩
theorem fp_9_22 : ∀ q : vw_C, mcl[9]? = some q → (q.2.1 22).2.2.2 = false ∧ (q.2.1 22).2.2.1 = "I" := fun q h => by cases h; exact ⟨rfl, rfl⟩
theorem fp_9_23 : ∀ q : vw_C, mcl[9]? = some q → (q.2.1 23).2.2.2 = true ∧ (q.2.1 23).1 = RX9 := fun q h => by cases h; exact ⟨rfl, rfl⟩
theorem fp_9_24 : ∀ q : vw_C, mcl[9]? = some q → (q.2.1 24).2.2.2 = true ∧ (q.2.1 24).1 = RX9 := fun q h => by cases h; exact ⟨rfl, rfl⟩
theorem fp_9_25 : ∀ q : vw_C, mcl[9]? = some q → (q.2.1 25).2.2.2 = true ∧ (q.2.1 25).1 = RX9 := fun q h => by cases h; exact ⟨rfl, rfl⟩
theorem fp_9_26 : ∀ q : vw_C, mcl[9]? = some q → (q.2.1 26).2.2.2 = false ∧ (q.2.1 26).2.2.1 = "I" := fun q h => by cases h; exact ⟨rfl, rfl⟩
theorem fp_9_27 : ∀ q : vw_C, mcl[9]? = some q → (q.2.1 27).2.2.2 = false ∧ (q.2.1 27).2.2.1 = "I" := fun q h => by cases h; exact ⟨rfl, rfl⟩
theorem fp_9_28 : ∀ q : vw_C, mcl[9]? = some q → (q.2.1 28).2.2.2 = false ∧ (q.2.1 28).2.2.1 = "I" := fun q h => by cases h; exact ⟨rfl, rfl⟩
theorem fp_9_29 : ∀ q : vw_C, mcl[9]? = some q → (q.2.1 29).2.2.2 = true ∧ (q.2.1 29).1 = RX9 := fun q h => by cases h; exact ⟨rfl, rfl⟩
theorem co_L_9 : mOkB RL 9 mX8_init 0 := ⟨gw_1, gw_21, ⟨by decide +kernel, by decide +kernel⟩, by decide +kernel, Or.inl gw_19⟩
theorem co_X8_9 : mOkB RX8 9 mX5_init 0 := ⟨gw_2, gw_29, ⟨by decide +kernel, by decide +kernel⟩, by decide +kernel, Or.inr (by decide +kernel)⟩
theorem co_X8_18 : mOkB RX8 18 mX2_init 0 := ⟨gw_3, gw_45, ⟨by decide +kernel, by decide +kernel⟩, by decide +kernel, Or.inr (by decide +kernel)⟩
theorem co_X2_11 : mOkB RX2 11 mX1_init 0 := ⟨gw_4, gw_51, ⟨by decide +kernel, by decide +kernel⟩, by decide +kernel, Or.inr (by decide +kernel)⟩
theorem co_X1_11 : mOkB RX1 11 mX3_init 1 := ⟨gw_5, gw_57, ⟨by decide +kernel, by decide +kernel⟩, by decide +kernel, Or.inl gw_55⟩
theorem co_X2_20 : mOkB RX2 20 mX0_init 0 := ⟨gw_6, gw_111, ⟨by decide +kernel, by decide +kernel⟩, by decide +kernel, Or.inl gw_109⟩
theorem co_X0_11 : mOkB RX0 11 mX3_init 1 := ⟨gw_5, gw_57, ⟨by decide +kernel, by decide +kernel⟩, by decide +kernel, Or.inl gw_114⟩
theorem co_X0_26 : mOkB RX0 26 mX6_init 0 := ⟨gw_7, gw_120, ⟨by decide +kernel, by decide +kernel⟩, by decide +kernel, Or.inr (by decide +kernel)⟩
theorem co_X2_27 : mOkB RX2 27 mX3_init 1 := ⟨gw_5, gw_57, ⟨by decide +kernel, by decide +kernel⟩, by decide +kernel, Or.inl gw_166⟩
theorem co_X8_25 : mOkB RX8 25 mX1_init 0 := ⟨gw_4, gw_51, ⟨by decide +kernel, by decide +kernel⟩, by decide +kernel, Or.inr (by decide +kernel)⟩
theorem co_X8_32 : mOkB RX8 32 mX0_init 0 := ⟨gw_6, gw_111, ⟨by decide +kernel, by decide +kernel⟩, by decide +kernel, Or.inl gw_182⟩
theorem co_X8_39 : mOkB RX8 39 mX4_init 1 := ⟨gw_8, gw_187, ⟨by decide +kernel, by decide +kernel⟩, by decide +kernel, Or.inl gw_185⟩
theorem co_X4_15 : mOkB RX4 15 mX0_init 0 := ⟨gw_6, gw_111, ⟨by decide +kernel, by decide +kernel⟩, by decide +kernel, Or.inl gw_191⟩
theorem co_X8_51 : mOkB RX8 51 mX3_init 1 := ⟨gw_5, gw_57, ⟨by decide +kernel, by decide +kernel⟩, by decide +kernel, Or.inl gw_201⟩
theorem co_X8_64 : mOkB RX8 64 mX6_init 0 := ⟨gw_7, gw_120, ⟨by decide +kernel, by decide +kernel⟩, by decide +kernel, Or.inr (by decide +kernel)⟩
theorem co_X8_74 : mOkB RX8 74 mX7_init 0 := ⟨gw_9, gw_208, ⟨by decide +kernel, by decide +kernel⟩, by decide +kernel, Or.inr (by decide +kernel)⟩
theorem co_X7_11 : mOkB RX7 11 mX3_init 1 := ⟨gw_5, gw_57, ⟨by decide +kernel, by decide +kernel⟩, by decide +kernel, Or.inl gw_211⟩
theorem co_X8_94 : mOkB RX8 94 mX5_add 1 := ⟨gw_2, gw_271, ⟨by decide +kernel, by decide +kernel⟩, by decide +kernel, Or.inl gw_268⟩
theorem co_X8_98 : mOkB RX8 98 mX8_layText 0 := ⟨gw_1, gw_275, ⟨by decide +kernel, by decide +kernel⟩, by decide +kernel, Or.inl gw_272⟩
theorem co_X8_109 : mOkB RX8 109 mX2_firstFault 1 := ⟨gw_3, gw_279, ⟨by decide +kernel, by decide +kernel⟩, by decide +kernel, Or.inl gw_276⟩
theorem co_X2_34 : mOkB RX2 34 mX1_clear 0 := ⟨gw_4, gw_283, ⟨by decide +kernel, by decide +kernel⟩, by decide +kernel, Or.inl gw_280⟩
theorem co_X2_37 : mOkB RX2 37 mX0_clear 0 := ⟨gw_6, gw_287, ⟨by decide +kernel, by decide +kernel⟩, by decide +kernel, Or.inl gw_284⟩
theorem co_X0_27 : mOkB RX0 27 mX3_fill 1 := ⟨gw_5, gw_291, ⟨by decide +kernel, by decide +kernel⟩, by decide +kernel, Or.inl gw_288⟩
theorem co_X2_44 : mOkB RX2 44 mX2_readItem 2 := ⟨gw_3, gw_295, ⟨by decide +kernel, by decide +kernel⟩, by decide +kernel, Or.inl gw_292⟩
theorem co_X2_48 : mOkB RX2 48 mX5_letterAt 1 := ⟨gw_2, gw_299, ⟨by decide +kernel, by decide +kernel⟩, by decide +kernel, Or.inl gw_296⟩
theorem co_X2_52 : mOkB RX2 52 mX2_readRow 2 := ⟨gw_3, gw_303, ⟨by decide +kernel, by decide +kernel⟩, by decide +kernel, Or.inl gw_300⟩
theorem co_X2_67 : mOkB RX2 67 mX8_figureOf 1 := ⟨gw_1, gw_306, ⟨by decide +kernel, by decide +kernel⟩, by decide +kernel, Or.inr (by decide +kernel)⟩
theorem co_X2_70 : mOkB RX2 70 mX8_within 3 := ⟨gw_1, gw_309, ⟨by decide +kernel, by decide +kernel⟩, by decide +kernel, Or.inr (by decide +kernel)⟩
theorem co_X2_80 : mOkB RX2 80 mX3_put 2 := ⟨gw_5, gw_313, ⟨by decide +kernel, by decide +kernel⟩, by decide +kernel, Or.inl gw_310⟩
theorem co_X2_55 : mOkB RX2 55 mX2_readDrum 2 := ⟨gw_3, gw_317, ⟨by decide +kernel, by decide +kernel⟩, by decide +kernel, Or.inl gw_314⟩
theorem co_X2_90 : mOkB RX2 90 mX2_readNumbers 3 := ⟨gw_3, gw_321, ⟨by decide +kernel, by decide +kernel⟩, by decide +kernel, Or.inl gw_318⟩
theorem co_X2_94 : mOkB RX2 94 mX3_at 1 := ⟨gw_5, gw_325, ⟨by decide +kernel, by decide +kernel⟩, by decide +kernel, Or.inl gw_322⟩
theorem co_X2_58 : mOkB RX2 58 mX2_readTold 2 := ⟨gw_3, gw_329, ⟨by decide +kernel, by decide +kernel⟩, by decide +kernel, Or.inl gw_326⟩
theorem co_X2_103 : mOkB RX2 103 mX1_hasDrum 1 := ⟨gw_4, gw_333, ⟨by decide +kernel, by decide +kernel⟩, by decide +kernel, Or.inl gw_330⟩
theorem co_X2_107 : mOkB RX2 107 mX1_hasPlace 1 := ⟨gw_4, gw_337, ⟨by decide +kernel, by decide +kernel⟩, by decide +kernel, Or.inl gw_334⟩
theorem co_X2_110 : mOkB RX2 110 mX0_setTold 3 := ⟨gw_6, gw_341, ⟨by decide +kernel, by decide +kernel⟩, by decide +kernel, Or.inl gw_338⟩
theorem co_X0_37 : mOkB RX0 37 mX3_put 2 := ⟨gw_5, gw_313, ⟨by decide +kernel, by decide +kernel⟩, by decide +kernel, Or.inl gw_342⟩
theorem co_X2_61 : mOkB RX2 61 mX2_readTraveller 2 := ⟨gw_3, gw_346, ⟨by decide +kernel, by decide +kernel⟩, by decide +kernel, Or.inl gw_343⟩
theorem co_X2_117 : mOkB RX2 117 mX0_who 1 := ⟨gw_6, gw_350, ⟨by decide +kernel, by decide +kernel⟩, by decide +kernel, Or.inl gw_347⟩
theorem co_X2_121 : mOkB RX2 121 mX6_start 3 := ⟨gw_7, gw_354, ⟨by decide +kernel, by decide +kernel⟩, by decide +kernel, Or.inl gw_351⟩
theorem co_X6_24 : mOkB RX6 24 mX6_goTo 1 := ⟨gw_7, gw_358, ⟨by decide +kernel, by decide +kernel⟩, by decide +kernel, Or.inl gw_355⟩
theorem co_X2_64 : mOkB RX2 64 mX2_readWet 2 := ⟨gw_3, gw_362, ⟨by decide +kernel, by decide +kernel⟩, by decide +kernel, Or.inl gw_359⟩
theorem co_X8_286 : mOkB RX8 286 mX1_copyFrom 1 := ⟨gw_4, gw_366, ⟨by decide +kernel, by decide +kernel⟩, by decide +kernel, Or.inl gw_363⟩
theorem co_X1_42 : mOkB RX1 42 mX3_copyFrom 1 := ⟨gw_5, gw_370, ⟨by decide +kernel, by decide +kernel⟩, by decide +kernel, Or.inl gw_367⟩
theorem co_X8_289 : mOkB RX8 289 mX1_linkPlaces 0 := ⟨gw_4, gw_380, ⟨by decide +kernel, by decide +kernel⟩, by decide +kernel, Or.inl gw_377⟩
theorem co_X1_46 : mOkB RX1 46 mX8_modulo 2 := ⟨gw_1, gw_383, ⟨by decide +kernel, by decide +kernel⟩, by decide +kernel, Or.inr (by decide +kernel)⟩
theorem co_X1_50 : mOkB RX1 50 mX3_put 2 := ⟨gw_5, gw_313, ⟨by decide +kernel, by decide +kernel⟩, by decide +kernel, Or.inl gw_384⟩
theorem co_X8_232 : mOkB RX8 232 mX0_copyFrom 1 := ⟨gw_6, gw_388, ⟨by decide +kernel, by decide +kernel⟩, by decide +kernel, Or.inl gw_385⟩
theorem co_X0_66 : mOkB RX0 66 mX3_copyFrom 1 := ⟨gw_5, gw_370, ⟨by decide +kernel, by decide +kernel⟩, by decide +kernel, Or.inl gw_389⟩
theorem co_X0_59 : mOkB RX0 59 mX0_who 1 := ⟨gw_6, gw_350, ⟨by decide +kernel, by decide +kernel⟩, by decide +kernel, Or.inl gw_390⟩
theorem co_X0_70 : mOkB RX0 70 mX6_copyFrom 1 := ⟨gw_7, gw_394, ⟨by decide +kernel, by decide +kernel⟩, by decide +kernel, Or.inl gw_391⟩
theorem co_L_13 : mOkB RL 13 mX8_write 1 := ⟨gw_1, gw_442, ⟨by decide +kernel, by decide +kernel⟩, by decide +kernel, Or.inl gw_439⟩
theorem co_X8_105 : mOkB RX8 105 mX8_within 3 := ⟨gw_1, gw_309, ⟨by decide +kernel, by decide +kernel⟩, by decide +kernel, Or.inl gw_443⟩
theorem co_L_18 : mOkB RL 18 mX8_wipe 0 := ⟨gw_1, gw_447, ⟨by decide +kernel, by decide +kernel⟩, by decide +kernel, Or.inl gw_444⟩
theorem co_L_23 : mOkB RL 23 mX8_fault 0 := ⟨gw_1, gw_451, ⟨by decide +kernel, by decide +kernel⟩, by decide +kernel, Or.inl gw_448⟩
theorem co_L_27 : mOkB RL 27 mX8_lay 0 := ⟨gw_1, gw_455, ⟨by decide +kernel, by decide +kernel⟩, by decide +kernel, Or.inl gw_452⟩
theorem co_L_31 : mOkB RL 31 mX8_place 1 := ⟨gw_1, gw_459, ⟨by decide +kernel, by decide +kernel⟩, by decide +kernel, Or.inl gw_456⟩
theorem co_X8_116 : mOkB RX8 116 mX1_hasPlace 1 := ⟨gw_4, gw_337, ⟨by decide +kernel, by decide +kernel⟩, by decide +kernel, Or.inl gw_460⟩
theorem co_X8_122 : mOkB RX8 122 mX3_at 1 := ⟨gw_5, gw_325, ⟨by decide +kernel, by decide +kernel⟩, by decide +kernel, Or.inl gw_461⟩
theorem co_L_35 : mOkB RL 35 mX8_drum 3 := ⟨gw_1, gw_465, ⟨by decide +kernel, by decide +kernel⟩, by decide +kernel, Or.inl gw_462⟩
theorem co_X8_126 : mOkB RX8 126 mX1_hasDrum 1 := ⟨gw_4, gw_333, ⟨by decide +kernel, by decide +kernel⟩, by decide +kernel, Or.inl gw_466⟩
theorem co_X8_129 : mOkB RX8 129 mX0_tells 3 := ⟨gw_6, gw_470, ⟨by decide +kernel, by decide +kernel⟩, by decide +kernel, Or.inl gw_467⟩
theorem co_X0_41 : mOkB RX0 41 mX3_at 1 := ⟨gw_5, gw_325, ⟨by decide +kernel, by decide +kernel⟩, by decide +kernel, Or.inl gw_471⟩
theorem co_X8_133 : mOkB RX8 133 mX0_takes 3 := ⟨gw_6, gw_475, ⟨by decide +kernel, by decide +kernel⟩, by decide +kernel, Or.inl gw_472⟩
theorem co_X0_50 : mOkB RX0 50 mX0_tells 3 := ⟨gw_6, gw_470, ⟨by decide +kernel, by decide +kernel⟩, by decide +kernel, Or.inl gw_476⟩
theorem co_X8_139 : mOkB RX8 139 mX8_loudness 2 := ⟨gw_1, gw_479, ⟨by decide +kernel, by decide +kernel⟩, by decide +kernel, Or.inl gw_477⟩
theorem co_L_40 : mOkB RL 40 mX8_kind 1 := ⟨gw_1, gw_483, ⟨by decide +kernel, by decide +kernel⟩, by decide +kernel, Or.inl gw_480⟩
theorem co_L_44 : mOkB RL 44 mX8_traveller 2 := ⟨gw_1, gw_487, ⟨by decide +kernel, by decide +kernel⟩, by decide +kernel, Or.inl gw_484⟩
theorem co_X8_146 : mOkB RX8 146 mX1_hasTraveller 1 := ⟨gw_4, gw_491, ⟨by decide +kernel, by decide +kernel⟩, by decide +kernel, Or.inl gw_488⟩
theorem co_X8_149 : mOkB RX8 149 mX0_who 1 := ⟨gw_6, gw_350, ⟨by decide +kernel, by decide +kernel⟩, by decide +kernel, Or.inl gw_492⟩
theorem co_X8_165 : mOkB RX8 165 mX6_isOnHisWay 0 := ⟨gw_7, gw_496, ⟨by decide +kernel, by decide +kernel⟩, by decide +kernel, Or.inl gw_493⟩
theorem co_L_49 : mOkB RL 49 mX8_route 4 := ⟨gw_1, gw_500, ⟨by decide +kernel, by decide +kernel⟩, by decide +kernel, Or.inl gw_497⟩
theorem co_X8_174 : mOkB RX8 174 mX7_learnByDrum 4 := ⟨gw_9, gw_504, ⟨by decide +kernel, by decide +kernel⟩, by decide +kernel, Or.inl gw_501⟩
theorem co_X7_29 : mOkB RX7 29 mX0_takes 3 := ⟨gw_6, gw_475, ⟨by decide +kernel, by decide +kernel⟩, by decide +kernel, Or.inl gw_505⟩
theorem co_X7_38 : mOkB RX7 38 mX8_hoursToEnter 2 := ⟨gw_1, gw_508, ⟨by decide +kernel, by decide +kernel⟩, by decide +kernel, Or.inr (by decide +kernel)⟩
theorem co_X7_42 : mOkB RX7 42 mX3_put 2 := ⟨gw_5, gw_313, ⟨by decide +kernel, by decide +kernel⟩, by decide +kernel, Or.inl gw_510⟩
theorem co_X7_46 : mOkB RX7 46 mX7_measure 2 := ⟨gw_9, gw_514, ⟨by decide +kernel, by decide +kernel⟩, by decide +kernel, Or.inl gw_511⟩
theorem co_X7_58 : mOkB RX7 58 mX3_fill 1 := ⟨gw_5, gw_291, ⟨by decide +kernel, by decide +kernel⟩, by decide +kernel, Or.inl gw_516⟩
theorem co_X7_61 : mOkB RX7 61 mX7_firstOf 2 := ⟨gw_9, gw_520, ⟨by decide +kernel, by decide +kernel⟩, by decide +kernel, Or.inl gw_517⟩
theorem co_X7_53 : mOkB RX7 53 mX3_at 1 := ⟨gw_5, gw_325, ⟨by decide +kernel, by decide +kernel⟩, by decide +kernel, Or.inl gw_521⟩
theorem co_X7_65 : mOkB RX7 65 mX7_hoursOver 1 := ⟨gw_9, gw_525, ⟨by decide +kernel, by decide +kernel⟩, by decide +kernel, Or.inl gw_522⟩
theorem co_X8_178 : mOkB RX8 178 mX7_hoursFrom 1 := ⟨gw_9, gw_529, ⟨by decide +kernel, by decide +kernel⟩, by decide +kernel, Or.inl gw_526⟩
theorem co_X8_181 : mOkB RX8 181 mX7_firstFrom 2 := ⟨gw_9, gw_533, ⟨by decide +kernel, by decide +kernel⟩, by decide +kernel, Or.inl gw_530⟩
theorem co_L_54 : mOkB RL 54 mX8_truth 2 := ⟨gw_1, gw_537, ⟨by decide +kernel, by decide +kernel⟩, by decide +kernel, Or.inl gw_534⟩
theorem co_X8_185 : mOkB RX8 185 mX7_learnInTruth 3 := ⟨gw_9, gw_541, ⟨by decide +kernel, by decide +kernel⟩, by decide +kernel, Or.inl gw_538⟩
theorem co_L_58 : mOkB RL 58 mX8_pass 1 := ⟨gw_1, gw_545, ⟨by decide +kernel, by decide +kernel⟩, by decide +kernel, Or.inl gw_542⟩
theorem co_X8_189 : mOkB RX8 189 mX4_add 1 := ⟨gw_8, gw_549, ⟨by decide +kernel, by decide +kernel⟩, by decide +kernel, Or.inl gw_546⟩
theorem co_X4_20 : mOkB RX4 20 mX4_isFull 0 := ⟨gw_8, gw_553, ⟨by decide +kernel, by decide +kernel⟩, by decide +kernel, Or.inl gw_550⟩
theorem co_X4_24 : mOkB RX4 24 mX4_dropLowest 0 := ⟨gw_8, gw_557, ⟨by decide +kernel, by decide +kernel⟩, by decide +kernel, Or.inl gw_554⟩
theorem co_X4_27 : mOkB RX4 27 mX0_copyFrom 1 := ⟨gw_6, gw_388, ⟨by decide +kernel, by decide +kernel⟩, by decide +kernel, Or.inl gw_558⟩
theorem co_X8_192 : mOkB RX8 192 mX8_letHourPass 1 := ⟨gw_1, gw_562, ⟨by decide +kernel, by decide +kernel⟩, by decide +kernel, Or.inl gw_559⟩
theorem co_X8_295 : mOkB RX8 295 mX6_mustSetOut 0 := ⟨gw_7, gw_566, ⟨by decide +kernel, by decide +kernel⟩, by decide +kernel, Or.inl gw_563⟩
theorem co_X8_238 : mOkB RX8 238 mX8_walkHour 3 := ⟨gw_1, gw_570, ⟨by decide +kernel, by decide +kernel⟩, by decide +kernel, Or.inl gw_567⟩
theorem co_X8_298 : mOkB RX8 298 mX8_setOut 3 := ⟨gw_1, gw_574, ⟨by decide +kernel, by decide +kernel⟩, by decide +kernel, Or.inl gw_571⟩
theorem co_X8_305 : mOkB RX8 305 mX8_hoursToEnter 2 := ⟨gw_1, gw_508, ⟨by decide +kernel, by decide +kernel⟩, by decide +kernel, Or.inl gw_575⟩
theorem co_X8_302 : mOkB RX8 302 mX6_goOn 0 := ⟨gw_7, gw_579, ⟨by decide +kernel, by decide +kernel⟩, by decide +kernel, Or.inl gw_576⟩
theorem co_L_62 : mOkB RL 62 mX8_rain 1 := ⟨gw_1, gw_583, ⟨by decide +kernel, by decide +kernel⟩, by decide +kernel, Or.inl gw_580⟩
theorem co_L_66 : mOkB RL 66 mX8_retune 3 := ⟨gw_1, gw_587, ⟨by decide +kernel, by decide +kernel⟩, by decide +kernel, Or.inl gw_584⟩
theorem co_X8_198 : mOkB RX8 198 mX0_setTold 3 := ⟨gw_6, gw_341, ⟨by decide +kernel, by decide +kernel⟩, by decide +kernel, Or.inl gw_588⟩
theorem co_L_70 : mOkB RL 70 mX8_give 2 := ⟨gw_1, gw_592, ⟨by decide +kernel, by decide +kernel⟩, by decide +kernel, Or.inl gw_589⟩
theorem co_L_74 : mOkB RL 74 mX8_send 2 := ⟨gw_1, gw_596, ⟨by decide +kernel, by decide +kernel⟩, by decide +kernel, Or.inl gw_593⟩
theorem co_X8_202 : mOkB RX8 202 mX6_goTo 1 := ⟨gw_7, gw_358, ⟨by decide +kernel, by decide +kernel⟩, by decide +kernel, Or.inl gw_597⟩
theorem co_L_78 : mOkB RL 78 mX8_undo 0 := ⟨gw_1, gw_601, ⟨by decide +kernel, by decide +kernel⟩, by decide +kernel, Or.inl gw_598⟩
theorem co_X8_205 : mOkB RX8 205 mX4_takeInto 1 := ⟨gw_8, gw_605, ⟨by decide +kernel, by decide +kernel⟩, by decide +kernel, Or.inl gw_602⟩
theorem co_L_82 : mOkB RL 82 mX8_arrives 1 := ⟨gw_1, gw_609, ⟨by decide +kernel, by decide +kernel⟩, by decide +kernel, Or.inl gw_606⟩
theorem co_X8_212 : mOkB RX8 212 mX6_copyFrom 1 := ⟨gw_7, gw_394, ⟨by decide +kernel, by decide +kernel⟩, by decide +kernel, Or.inl gw_610⟩
theorem co_X8_216 : mOkB RX8 216 mX8_hoursUntil 2 := ⟨gw_1, gw_614, ⟨by decide +kernel, by decide +kernel⟩, by decide +kernel, Or.inl gw_611⟩
theorem co_L_86 : mOkB RL 86 mX8_loses 1 := ⟨gw_1, gw_618, ⟨by decide +kernel, by decide +kernel⟩, by decide +kernel, Or.inl gw_615⟩
theorem co_L_90 : mOkB RL 90 mX8_led 3 := ⟨gw_1, gw_622, ⟨by decide +kernel, by decide +kernel⟩, by decide +kernel, Or.inl gw_619⟩
theorem co_X8_220 : mOkB RX8 220 mX8_hoursLed 3 := ⟨gw_1, gw_626, ⟨by decide +kernel, by decide +kernel⟩, by decide +kernel, Or.inl gw_623⟩
theorem co_X8_308 : mOkB RX8 308 mX6_start 3 := ⟨gw_7, gw_354, ⟨by decide +kernel, by decide +kernel⟩, by decide +kernel, Or.inl gw_627⟩
theorem co_L_94 : mOkB RL 94 mX8_fastest 1 := ⟨gw_1, gw_631, ⟨by decide +kernel, by decide +kernel⟩, by decide +kernel, Or.inl gw_628⟩
theorem co_X8_228 : mOkB RX8 228 mX8_hoursToArrive 3 := ⟨gw_1, gw_635, ⟨by decide +kernel, by decide +kernel⟩, by decide +kernel, Or.inl gw_632⟩
theorem co_L_98 : mOkB RL 98 mX8_tune 1 := ⟨gw_1, gw_639, ⟨by decide +kernel, by decide +kernel⟩, by decide +kernel, Or.inl gw_636⟩
theorem co_L_102 : mOkB RL 102 mX8_meet 2 := ⟨gw_1, gw_643, ⟨by decide +kernel, by decide +kernel⟩, by decide +kernel, Or.inl gw_640⟩
theorem co_X8_234 : mOkB RX8 234 mX6_isWith 1 := ⟨gw_7, gw_647, ⟨by decide +kernel, by decide +kernel⟩, by decide +kernel, Or.inl gw_644⟩
theorem co_L_106 : mOkB RL 106 mX8_clash 3 := ⟨gw_1, gw_651, ⟨by decide +kernel, by decide +kernel⟩, by decide +kernel, Or.inl gw_648⟩
theorem co_L_110 : mOkB RL 110 mX8_right 2 := ⟨gw_1, gw_655, ⟨by decide +kernel, by decide +kernel⟩, by decide +kernel, Or.inl gw_652⟩
theorem co_L_114 : mOkB RL 114 mX8_hear 2 := ⟨gw_1, gw_659, ⟨by decide +kernel, by decide +kernel⟩, by decide +kernel, Or.inl gw_656⟩
theorem co_X8_245 : mOkB RX8 245 mX3_put 2 := ⟨gw_5, gw_313, ⟨by decide +kernel, by decide +kernel⟩, by decide +kernel, Or.inl gw_660⟩
theorem co_L_118 : mOkB RL 118 mX8_forget 0 := ⟨gw_1, gw_664, ⟨by decide +kernel, by decide +kernel⟩, by decide +kernel, Or.inl gw_661⟩
theorem co_L_122 : mOkB RL 122 mX8_which 0 := ⟨gw_1, gw_668, ⟨by decide +kernel, by decide +kernel⟩, by decide +kernel, Or.inl gw_665⟩
theorem co_X8_249 : mOkB RX8 249 mX8_toldAllHeard 1 := ⟨gw_1, gw_672, ⟨by decide +kernel, by decide +kernel⟩, by decide +kernel, Or.inl gw_669⟩
theorem co_L_126 : mOkB RL 126 mX8_seen 3 := ⟨gw_1, gw_676, ⟨by decide +kernel, by decide +kernel⟩, by decide +kernel, Or.inl gw_673⟩
theorem co_X8_252 : mOkB RX8 252 mX8_placeBehind 3 := ⟨gw_1, gw_680, ⟨by decide +kernel, by decide +kernel⟩, by decide +kernel, Or.inl gw_677⟩
theorem co_L_130 : mOkB RL 130 mX8_rains 4 := ⟨gw_1, gw_684, ⟨by decide +kernel, by decide +kernel⟩, by decide +kernel, Or.inl gw_681⟩
theorem co_X8_256 : mOkB RX8 256 mX8_weightIfThere 4 := ⟨gw_1, gw_688, ⟨by decide +kernel, by decide +kernel⟩, by decide +kernel, Or.inl gw_685⟩
theorem co_X8_260 : mOkB RX8 260 mX8_greatestDivisor 2 := ⟨gw_1, gw_691, ⟨by decide +kernel, by decide +kernel⟩, by decide +kernel, Or.inl gw_689⟩
theorem co_L_134 : mOkB RL 134 mX8_year 3 := ⟨gw_1, gw_695, ⟨by decide +kernel, by decide +kernel⟩, by decide +kernel, Or.inl gw_692⟩
theorem co_X8_263 : mOkB RX8 263 mX8_drawOf 2 := ⟨gw_1, gw_698, ⟨by decide +kernel, by decide +kernel⟩, by decide +kernel, Or.inl gw_696⟩
theorem co_X8_266 : mOkB RX8 266 mX8_stir 2 := ⟨gw_1, gw_705, ⟨by decide +kernel, by decide +kernel⟩, by decide +kernel, Or.inl gw_702⟩
theorem co_X8_317 : mOkB RX8 317 mX8_modulo 2 := ⟨gw_1, gw_383, ⟨by decide +kernel, by decide +kernel⟩, by decide +kernel, Or.inl gw_706⟩
theorem co_X8_320 : mOkB RX8 320 mX8_sendIfHeCan 3 := ⟨gw_1, gw_710, ⟨by decide +kernel, by decide +kernel⟩, by decide +kernel, Or.inl gw_707⟩
theorem co_X8_270 : mOkB RX8 270 mX0_howMany 2 := ⟨gw_6, gw_714, ⟨by decide +kernel, by decide +kernel⟩, by decide +kernel, Or.inl gw_711⟩
theorem co_L_138 : mOkB RL 138 mX8_keep 0 := ⟨gw_1, gw_718, ⟨by decide +kernel, by decide +kernel⟩, by decide +kernel, Or.inl gw_715⟩
theorem co_X8_273 : mOkB RX8 273 mX4_isFull 0 := ⟨gw_8, gw_553, ⟨by decide +kernel, by decide +kernel⟩, by decide +kernel, Or.inl gw_719⟩
theorem co_L_142 : mOkB RL 142 mX8_back 0 := ⟨gw_1, gw_723, ⟨by decide +kernel, by decide +kernel⟩, by decide +kernel, Or.inl gw_720⟩
theorem co_L_146 : mOkB RL 146 mX8_count 1 := ⟨gw_1, gw_727, ⟨by decide +kernel, by decide +kernel⟩, by decide +kernel, Or.inl gw_724⟩
theorem co_X8_282 : mOkB RX8 282 mX8_sure 0 := ⟨gw_1, gw_731, ⟨by decide +kernel, by decide +kernel⟩, by decide +kernel, Or.inl gw_728⟩
theorem co_L_12 : mOkB RL 12 mX9_init 0 := ⟨gw_16, gw_736, ⟨by decide +kernel, by decide +kernel⟩, by decide +kernel, Or.inl gw_734⟩
theorem co_X9_55 : mOkB RX9 55 mX9_forgetsRead 0 := ⟨gw_16, gw_741, ⟨by decide +kernel, by decide +kernel⟩, by decide +kernel, Or.inl gw_738⟩
theorem co_X9_58 : mOkB RX9 58 mX9_laysRow 2 := ⟨gw_16, gw_745, ⟨by decide +kernel, by decide +kernel⟩, by decide +kernel, Or.inl gw_742⟩
theorem co_X9_66 : mOkB RX9 66 mX9_laysTraveller 3 := ⟨gw_16, gw_749, ⟨by decide +kernel, by decide +kernel⟩, by decide +kernel, Or.inl gw_746⟩
theorem co_X9_73 : mOkB RX9 73 mX9_begins 0 := ⟨gw_16, gw_753, ⟨by decide +kernel, by decide +kernel⟩, by decide +kernel, Or.inl gw_750⟩
theorem co_X9_97 : mOkB RX9 97 mX9_copies 5 := ⟨gw_16, gw_756, ⟨by decide +kernel, by decide +kernel⟩, by decide +kernel, Or.inl gw_754⟩
theorem co_L_17 : mOkB RL 17 mX9_write 1 := ⟨gw_16, gw_851, ⟨by decide +kernel, by decide +kernel⟩, by decide +kernel, Or.inl gw_848⟩
theorem co_X9_114 : mOkB RX9 114 mX9_in 3 := ⟨gw_16, gw_856, ⟨by decide +kernel, by decide +kernel⟩, by decide +kernel, Or.inl gw_854⟩
theorem co_L_22 : mOkB RL 22 mX9_wipe 0 := ⟨gw_16, gw_860, ⟨by decide +kernel, by decide +kernel⟩, by decide +kernel, Or.inl gw_857⟩
theorem co_L_26 : mOkB RL 26 mX9_fault 0 := ⟨gw_16, gw_864, ⟨by decide +kernel, by decide +kernel⟩, by decide +kernel, Or.inl gw_861⟩
theorem co_X9_169 : mOkB RX9 169 mX9_reads 0 := ⟨gw_16, gw_868, ⟨by decide +kernel, by decide +kernel⟩, by decide +kernel, Or.inl gw_865⟩
theorem co_X9_166 : mOkB RX9 166 mX9_readsItem 0 := ⟨gw_16, gw_872, ⟨by decide +kernel, by decide +kernel⟩, by decide +kernel, Or.inl gw_869⟩
theorem co_X9_124 : mOkB RX9 124 mX9_here 0 := ⟨gw_16, gw_876, ⟨by decide +kernel, by decide +kernel⟩, by decide +kernel, Or.inl gw_873⟩
theorem co_X9_150 : mOkB RX9 150 mX9_readsRow 0 := ⟨gw_16, gw_880, ⟨by decide +kernel, by decide +kernel⟩, by decide +kernel, Or.inl gw_877⟩
theorem co_X9_154 : mOkB RX9 154 mX9_readsDrum 0 := ⟨gw_16, gw_887, ⟨by decide +kernel, by decide +kernel⟩, by decide +kernel, Or.inl gw_884⟩
theorem co_X9_143 : mOkB RX9 143 mX9_number 2 := ⟨gw_16, gw_891, ⟨by decide +kernel, by decide +kernel⟩, by decide +kernel, Or.inl gw_888⟩
theorem co_X9_132 : mOkB RX9 132 mX9_isFigure 1 := ⟨gw_16, gw_894, ⟨by decide +kernel, by decide +kernel⟩, by decide +kernel, Or.inl gw_892⟩
theorem co_X9_157 : mOkB RX9 157 mX9_readsOther 0 := ⟨gw_16, gw_899, ⟨by decide +kernel, by decide +kernel⟩, by decide +kernel, Or.inl gw_896⟩
theorem co_X9_147 : mOkB RX9 147 mX9_takes 1 := ⟨gw_16, gw_903, ⟨by decide +kernel, by decide +kernel⟩, by decide +kernel, Or.inl gw_900⟩
theorem co_X9_160 : mOkB RX9 160 mX9_readsTraveller 0 := ⟨gw_16, gw_907, ⟨by decide +kernel, by decide +kernel⟩, by decide +kernel, Or.inl gw_904⟩
theorem co_X9_163 : mOkB RX9 163 mX9_readsWet 0 := ⟨gw_16, gw_911, ⟨by decide +kernel, by decide +kernel⟩, by decide +kernel, Or.inl gw_908⟩
theorem co_L_30 : mOkB RL 30 mX9_lay 0 := ⟨gw_16, gw_915, ⟨by decide +kernel, by decide +kernel⟩, by decide +kernel, Or.inl gw_912⟩
theorem co_L_34 : mOkB RL 34 mX9_place 1 := ⟨gw_16, gw_919, ⟨by decide +kernel, by decide +kernel⟩, by decide +kernel, Or.inl gw_916⟩
theorem co_X9_195 : mOkB RX9 195 mX9_isPlace 1 := ⟨gw_16, gw_923, ⟨by decide +kernel, by decide +kernel⟩, by decide +kernel, Or.inl gw_920⟩
theorem co_L_39 : mOkB RL 39 mX9_drum 3 := ⟨gw_16, gw_927, ⟨by decide +kernel, by decide +kernel⟩, by decide +kernel, Or.inl gw_924⟩
theorem co_X9_198 : mOkB RX9 198 mX9_isDrum 1 := ⟨gw_16, gw_931, ⟨by decide +kernel, by decide +kernel⟩, by decide +kernel, Or.inl gw_928⟩
theorem co_X9_172 : mOkB RX9 172 mX9_tells 3 := ⟨gw_16, gw_935, ⟨by decide +kernel, by decide +kernel⟩, by decide +kernel, Or.inl gw_933⟩
theorem co_X9_181 : mOkB RX9 181 mX9_taken 3 := ⟨gw_16, gw_939, ⟨by decide +kernel, by decide +kernel⟩, by decide +kernel, Or.inl gw_936⟩
theorem co_L_43 : mOkB RL 43 mX9_kind 1 := ⟨gw_16, gw_943, ⟨by decide +kernel, by decide +kernel⟩, by decide +kernel, Or.inl gw_940⟩
theorem co_L_48 : mOkB RL 48 mX9_traveller 2 := ⟨gw_16, gw_947, ⟨by decide +kernel, by decide +kernel⟩, by decide +kernel, Or.inl gw_944⟩
theorem co_X9_203 : mOkB RX9 203 mX9_isTraveller 1 := ⟨gw_16, gw_951, ⟨by decide +kernel, by decide +kernel⟩, by decide +kernel, Or.inl gw_948⟩
theorem co_L_53 : mOkB RL 53 mX9_route 4 := ⟨gw_16, gw_956, ⟨by decide +kernel, by decide +kernel⟩, by decide +kernel, Or.inl gw_953⟩
theorem co_X9_208 : mOkB RX9 208 mX9_lengthOf 4 := ⟨gw_16, gw_960, ⟨by decide +kernel, by decide +kernel⟩, by decide +kernel, Or.inl gw_957⟩
theorem co_X9_191 : mOkB RX9 191 mX9_layAway 3 := ⟨gw_16, gw_964, ⟨by decide +kernel, by decide +kernel⟩, by decide +kernel, Or.inl gw_961⟩
theorem co_X9_187 : mOkB RX9 187 mX9_byWay 4 := ⟨gw_16, gw_969, ⟨by decide +kernel, by decide +kernel⟩, by decide +kernel, Or.inl gw_966⟩
theorem co_X9_177 : mOkB RX9 177 mX9_beside 2 := ⟨gw_16, gw_973, ⟨by decide +kernel, by decide +kernel⟩, by decide +kernel, Or.inl gw_970⟩
theorem co_X9_184 : mOkB RX9 184 mX9_hoursFor 2 := ⟨gw_16, gw_976, ⟨by decide +kernel, by decide +kernel⟩, by decide +kernel, Or.inl gw_974⟩
theorem co_X9_211 : mOkB RX9 211 mX9_firstOf 4 := ⟨gw_16, gw_980, ⟨by decide +kernel, by decide +kernel⟩, by decide +kernel, Or.inl gw_977⟩
theorem co_L_57 : mOkB RL 57 mX9_truth 2 := ⟨gw_16, gw_984, ⟨by decide +kernel, by decide +kernel⟩, by decide +kernel, Or.inl gw_981⟩
theorem co_L_61 : mOkB RL 61 mX9_pass 1 := ⟨gw_16, gw_988, ⟨by decide +kernel, by decide +kernel⟩, by decide +kernel, Or.inl gw_985⟩
theorem co_X9_220 : mOkB RX9 220 mX9_remember 0 := ⟨gw_16, gw_993, ⟨by decide +kernel, by decide +kernel⟩, by decide +kernel, Or.inl gw_990⟩
theorem co_X9_223 : mOkB RX9 223 mX9_hourGoes 1 := ⟨gw_16, gw_997, ⟨by decide +kernel, by decide +kernel⟩, by decide +kernel, Or.inl gw_994⟩
theorem co_X9_214 : mOkB RX9 214 mX9_oneGoes 2 := ⟨gw_16, gw_1001, ⟨by decide +kernel, by decide +kernel⟩, by decide +kernel, Or.inl gw_998⟩
theorem co_L_65 : mOkB RL 65 mX9_rain 1 := ⟨gw_16, gw_1005, ⟨by decide +kernel, by decide +kernel⟩, by decide +kernel, Or.inl gw_1002⟩
theorem co_L_69 : mOkB RL 69 mX9_retune 3 := ⟨gw_16, gw_1010, ⟨by decide +kernel, by decide +kernel⟩, by decide +kernel, Or.inl gw_1007⟩
theorem co_L_73 : mOkB RL 73 mX9_give 2 := ⟨gw_16, gw_1014, ⟨by decide +kernel, by decide +kernel⟩, by decide +kernel, Or.inl gw_1011⟩
theorem co_L_77 : mOkB RL 77 mX9_send 2 := ⟨gw_16, gw_1018, ⟨by decide +kernel, by decide +kernel⟩, by decide +kernel, Or.inl gw_1015⟩
theorem co_X9_229 : mOkB RX9 229 mX9_sends 3 := ⟨gw_16, gw_1021, ⟨by decide +kernel, by decide +kernel⟩, by decide +kernel, Or.inl gw_1019⟩
theorem co_L_81 : mOkB RL 81 mX9_undo 0 := ⟨gw_16, gw_1025, ⟨by decide +kernel, by decide +kernel⟩, by decide +kernel, Or.inl gw_1022⟩
theorem co_L_85 : mOkB RL 85 mX9_arrives 1 := ⟨gw_16, gw_1029, ⟨by decide +kernel, by decide +kernel⟩, by decide +kernel, Or.inl gw_1026⟩
theorem co_X9_235 : mOkB RX9 235 mX9_untilNow 2 := ⟨gw_16, gw_1033, ⟨by decide +kernel, by decide +kernel⟩, by decide +kernel, Or.inl gw_1030⟩
theorem co_X9_232 : mOkB RX9 232 mX9_untilSo 2 := ⟨gw_16, gw_1037, ⟨by decide +kernel, by decide +kernel⟩, by decide +kernel, Or.inl gw_1034⟩
theorem co_L_89 : mOkB RL 89 mX9_loses 1 := ⟨gw_16, gw_1041, ⟨by decide +kernel, by decide +kernel⟩, by decide +kernel, Or.inl gw_1038⟩
theorem co_L_93 : mOkB RL 93 mX9_led 3 := ⟨gw_16, gw_1045, ⟨by decide +kernel, by decide +kernel⟩, by decide +kernel, Or.inl gw_1042⟩
theorem co_X9_238 : mOkB RX9 238 mX9_ledBy 3 := ⟨gw_16, gw_1049, ⟨by decide +kernel, by decide +kernel⟩, by decide +kernel, Or.inl gw_1046⟩
theorem co_L_97 : mOkB RL 97 mX9_fastest 1 := ⟨gw_16, gw_1053, ⟨by decide +kernel, by decide +kernel⟩, by decide +kernel, Or.inl gw_1050⟩
theorem co_L_101 : mOkB RL 101 mX9_tune 1 := ⟨gw_16, gw_1057, ⟨by decide +kernel, by decide +kernel⟩, by decide +kernel, Or.inl gw_1054⟩
theorem co_L_105 : mOkB RL 105 mX9_meet 2 := ⟨gw_16, gw_1061, ⟨by decide +kernel, by decide +kernel⟩, by decide +kernel, Or.inl gw_1058⟩
theorem co_L_109 : mOkB RL 109 mX9_clash 3 := ⟨gw_16, gw_1065, ⟨by decide +kernel, by decide +kernel⟩, by decide +kernel, Or.inl gw_1062⟩
theorem co_L_113 : mOkB RL 113 mX9_right 2 := ⟨gw_16, gw_1069, ⟨by decide +kernel, by decide +kernel⟩, by decide +kernel, Or.inl gw_1066⟩
theorem co_L_117 : mOkB RL 117 mX9_hear 2 := ⟨gw_16, gw_1073, ⟨by decide +kernel, by decide +kernel⟩, by decide +kernel, Or.inl gw_1070⟩
theorem co_L_121 : mOkB RL 121 mX9_forget 0 := ⟨gw_16, gw_1077, ⟨by decide +kernel, by decide +kernel⟩, by decide +kernel, Or.inl gw_1074⟩
theorem co_L_125 : mOkB RL 125 mX9_which 0 := ⟨gw_16, gw_1081, ⟨by decide +kernel, by decide +kernel⟩, by decide +kernel, Or.inl gw_1078⟩
theorem co_L_129 : mOkB RL 129 mX9_seen 3 := ⟨gw_16, gw_1085, ⟨by decide +kernel, by decide +kernel⟩, by decide +kernel, Or.inl gw_1082⟩
theorem co_L_133 : mOkB RL 133 mX9_rains 4 := ⟨gw_16, gw_1090, ⟨by decide +kernel, by decide +kernel⟩, by decide +kernel, Or.inl gw_1087⟩
theorem co_X9_248 : mOkB RX9 248 mX9_has 2 := ⟨gw_16, gw_1095, ⟨by decide +kernel, by decide +kernel⟩, by decide +kernel, Or.inl gw_1093⟩
theorem co_X9_251 : mOkB RX9 251 mX9_lowest 3 := ⟨gw_16, gw_1098, ⟨by decide +kernel, by decide +kernel⟩, by decide +kernel, Or.inl gw_1096⟩
theorem co_L_137 : mOkB RL 137 mX9_year 3 := ⟨gw_16, gw_1102, ⟨by decide +kernel, by decide +kernel⟩, by decide +kernel, Or.inl gw_1099⟩
theorem co_X9_265 : mOkB RX9 265 mX9_yearDraws 1 := ⟨gw_16, gw_1111, ⟨by decide +kernel, by decide +kernel⟩, by decide +kernel, Or.inl gw_1108⟩
theorem co_X9_269 : mOkB RX9 269 mX9_manyOf 2 := ⟨gw_16, gw_1115, ⟨by decide +kernel, by decide +kernel⟩, by decide +kernel, Or.inl gw_1112⟩
theorem co_L_141 : mOkB RL 141 mX9_keep 0 := ⟨gw_16, gw_1119, ⟨by decide +kernel, by decide +kernel⟩, by decide +kernel, Or.inl gw_1116⟩
theorem co_L_145 : mOkB RL 145 mX9_back 0 := ⟨gw_16, gw_1123, ⟨by decide +kernel, by decide +kernel⟩, by decide +kernel, Or.inl gw_1120⟩
theorem co_L_149 : mOkB RL 149 mX9_count 1 := ⟨gw_16, gw_1127, ⟨by decide +kernel, by decide +kernel⟩, by decide +kernel, Or.inl gw_1124⟩
theorem co_X9_273 : mOkB RX9 273 mX9_sure 0 := ⟨gw_16, gw_1131, ⟨by decide +kernel, by decide +kernel⟩, by decide +kernel, Or.inl gw_1128⟩
theorem pl_0 : plainName RX0 = true := by decide +kernel
theorem pl_1 : plainName RX1 = true := by decide +kernel
theorem pl_2 : plainName RX2 = true := by decide +kernel
theorem pl_3 : plainName RX3 = true := by decide +kernel
theorem pl_4 : plainName RX4 = true := by decide +kernel
theorem pl_5 : plainName RX5 = true := by decide +kernel
theorem pl_6 : plainName RX6 = true := by decide +kernel
theorem pl_7 : plainName RX7 = true := by decide +kernel
theorem pl_8 : plainName RX8 = true := by decide +kernel
theorem pl_9 : plainName RX9 = true := by decide +kernel
theorem pl_L : plainName RL = true := by decide +kernel
theorem mCt.eq {M : mM} {as : List mV} {h h' : mH} {v : Option mV} (k : mMt M as h (fun v2 h2 => v2 = v ∧ h2 = h')) : mCt M as h v h' := by
  obtain ⟨v2, h2, g, rfl, rfl⟩ := k
  exact g
theorem mCt.mt {M : mM} {as : List mV} {h h' : mH} {v : Option mV} {post : Option mV → mH → Prop} (k : mCt M as h v h') (hp : post v h') : mMt M as h post := ⟨v, h', k, hp⟩
section C2
variable {Z : mZ} {M M2 : mM} {pc : Nat} {ls : mL} {st : List mV} {h h2 : mH} {x : mV}
theorem q_callVi {idx r ci n : Nat} {fs : List (Option (Option Nat))} {q : vw_C} (as : List mV) (rest : List mV) (d : decode M.2.1 pc = .ok (.invokevirtual idx, 3)) (ok : mOkB M.1.cls idx M2 n) (fit : mFit M M2) (w1 : Cond.instanceMethod M2.1 ∈ gtbl) (w2 : Cond.selects M2.1.cls M2.1 M2.1 ∈ gtbl)
    (hs : st = as.reverse ++ mr r :: rest) (hr : h.1[r]? = some (.inl (ci, fs))) (hq : mcl[ci]? = some q) (hqc : q.1 = M2.1.cls) (hn : as.length = n) (hw : mwt rest ≤ 8) (hc : mCt M2 (mr r :: as) h (some x) h2) : mGo Z M pc ls st h (pc + 3) ls (x :: rest) h2 := q_callV as rest d ok fit w1 w2 hs hr hq hqc hn hw hc
theorem q_callVv {idx r ci n : Nat} {fs : List (Option (Option Nat))} {q : vw_C} (as : List mV) (rest : List mV) (d : decode M.2.1 pc = .ok (.invokevirtual idx, 3)) (ok : mOkB M.1.cls idx M2 n) (fit : mFit M M2) (w1 : Cond.instanceMethod M2.1 ∈ gtbl) (w2 : Cond.selects M2.1.cls M2.1 M2.1 ∈ gtbl)
    (hs : st = as.reverse ++ mr r :: rest) (hr : h.1[r]? = some (.inl (ci, fs))) (hq : mcl[ci]? = some q) (hqc : q.1 = M2.1.cls) (hn : as.length = n) (hw : mwt rest ≤ 8) (hc : mCt M2 (mr r :: as) h none h2) : mGo Z M pc ls st h (pc + 3) ls rest h2 := q_callV as rest d ok fit w1 w2 hs hr hq hqc hn hw hc
theorem q_callSi {idx n : Nat} (as : List mV) (rest : List mV) (d : decode M.2.1 pc = .ok (.invokestatic idx, 3)) (ok : mOkB M.1.cls idx M2 n) (fit : mFit M M2) (w1 : Cond.static M2.1 ∈ gtbl)
    (hs : st = as.reverse ++ rest) (hn : as.length = n) (hw : mwt rest ≤ 8) (hc : mCt M2 as h (some x) h2) : mGo Z M pc ls st h (pc + 3) ls (x :: rest) h2 := q_callS as rest d ok fit w1 hs hn hw hc
theorem q_callSv {idx n : Nat} (as : List mV) (rest : List mV) (d : decode M.2.1 pc = .ok (.invokestatic idx, 3)) (ok : mOkB M.1.cls idx M2 n) (fit : mFit M M2) (w1 : Cond.static M2.1 ∈ gtbl)
    (hs : st = as.reverse ++ rest) (hn : as.length = n) (hw : mwt rest ≤ 8) (hc : mCt M2 as h none h2) : mGo Z M pc ls st h (pc + 3) ls rest h2 := q_callS as rest d ok fit w1 hs hn hw hc
theorem q_callIv {idx r n : Nat} (as : List mV) (rest : List mV) (d : decode M.2.1 pc = .ok (.invokespecial idx, 3)) (ok : mOkB M.1.cls idx M2 n) (fit : mFit M M2) (w1 : Cond.instanceMethod M2.1 ∈ gtbl) (hnm : M2.1.name = "<init>") (hrt : M2.2.2.2.1 = none)
    (hs : st = as.reverse ++ mr r :: rest) (hn : as.length = n) (hw : mwt rest ≤ 8) (hc : mCt M2 (mr r :: as) h none h2) : mGo Z M pc ls st h (pc + 3) ls rest h2 := q_callI as rest d ok fit w1 hnm hrt hs hn hw hc
end C2
section E2
variable {Z : mZ} {M : mM} {pc : Nat} {ls : mL} {st : List mV} {σ : List mC} {I : mI}
theorem q_getE {idx ci k r : Nat} {x : Int} {fs : List (Option (Option Nat))} (d : decode M.2.1 pc = .ok (.getfield idx, 3)) (ok : mOkF M.1.cls idx ci k) (hr : σ[r]? = some (.inl (ci, fs))) (hk : fs[k]? = some none) (e : I r k = x) : mGo Z M pc ls (mr r :: st) (σ, I) (pc + 3) ls (mi x :: st) (σ, I) := by
  subst e
  exact q_getI d ok hr hk
theorem q_ialdE {r n : Nat} {i x : Int} (d : decode M.2.1 pc = .ok (.iaload, 1)) (hr : σ[r]? = some (.inr (.inl n))) (hi : 0 ≤ i ∧ i < (n : Int)) (hn : n < 2147483648) (e : I r i.toNat = x) : mGo Z M pc ls (mi i :: mr r :: st) (σ, I) (pc + 1) ls (mi x :: st) (σ, I) := by
  subst e
  exact q_iald d hr hi hn
end E2
