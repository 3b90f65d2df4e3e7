theorem tn_1 : (1 : Int32).toNatClampNeg = 1 := rfl
theorem tn_3 : (3 : Int32).toNatClampNeg = 3 := rfl
theorem tn_10 : (10 : Int32).toNatClampNeg = 10 := rfl
theorem tn_11 : (11 : Int32).toNatClampNeg = 11 := rfl
theorem tn_13 : (13 : Int32).toNatClampNeg = 13 := rfl
theorem tn_14 : (14 : Int32).toNatClampNeg = 14 := rfl
theorem tn_15 : (15 : Int32).toNatClampNeg = 15 := rfl
theorem tn_16 : (16 : Int32).toNatClampNeg = 16 := rfl
theorem tn_17 : (17 : Int32).toNatClampNeg = 17 := rfl
theorem tn_18 : (18 : Int32).toNatClampNeg = 18 := rfl
theorem tn_19 : (19 : Int32).toNatClampNeg = 19 := rfl
theorem tn_20 : (20 : Int32).toNatClampNeg = 20 := rfl
theorem tn_21 : (21 : Int32).toNatClampNeg = 21 := rfl
theorem tn_22 : (22 : Int32).toNatClampNeg = 22 := rfl
theorem tn_23 : (23 : Int32).toNatClampNeg = 23 := rfl
theorem tn_24 : (24 : Int32).toNatClampNeg = 24 := rfl
theorem tn_25 : (25 : Int32).toNatClampNeg = 25 := rfl
theorem tn_26 : (26 : Int32).toNatClampNeg = 26 := rfl
theorem tn_27 : (27 : Int32).toNatClampNeg = 27 := rfl
theorem tn_28 : (28 : Int32).toNatClampNeg = 28 := rfl
theorem tn_29 : (29 : Int32).toNatClampNeg = 29 := rfl
theorem tn_30 : (30 : Int32).toNatClampNeg = 30 := rfl
theorem tn_31 : (31 : Int32).toNatClampNeg = 31 := rfl
theorem tn_32 : (32 : Int32).toNatClampNeg = 32 := rfl
theorem tn_33 : (33 : Int32).toNatClampNeg = 33 := rfl
theorem tn_34 : (34 : Int32).toNatClampNeg = 34 := rfl
theorem tn_35 : (35 : Int32).toNatClampNeg = 35 := rfl
theorem tn_36 : (36 : Int32).toNatClampNeg = 36 := rfl
theorem tn_37 : (37 : Int32).toNatClampNeg = 37 := rfl
theorem tn_38 : (38 : Int32).toNatClampNeg = 38 := rfl
theorem tn_39 : (39 : Int32).toNatClampNeg = 39 := rfl
theorem tn_41 : (41 : Int32).toNatClampNeg = 41 := rfl
theorem tn_42 : (42 : Int32).toNatClampNeg = 42 := rfl
theorem tn_43 : (43 : Int32).toNatClampNeg = 43 := rfl
theorem tn_44 : (44 : Int32).toNatClampNeg = 44 := rfl
theorem tn_45 : (45 : Int32).toNatClampNeg = 45 := rfl
theorem tn_46 : (46 : Int32).toNatClampNeg = 46 := rfl
theorem tn_47 : (47 : Int32).toNatClampNeg = 47 := rfl
theorem tn_48 : (48 : Int32).toNatClampNeg = 48 := rfl
theorem tn_49 : (49 : Int32).toNatClampNeg = 49 := rfl
theorem tn_50 : (50 : Int32).toNatClampNeg = 50 := rfl
theorem tn_51 : (51 : Int32).toNatClampNeg = 51 := rfl
theorem tn_52 : (52 : Int32).toNatClampNeg = 52 := rfl
theorem tn_53 : (53 : Int32).toNatClampNeg = 53 := rfl
theorem tn_54 : (54 : Int32).toNatClampNeg = 54 := rfl
theorem tn_55 : (55 : Int32).toNatClampNeg = 55 := rfl
theorem tn_56 : (56 : Int32).toNatClampNeg = 56 := rfl
theorem tn_57 : (57 : Int32).toNatClampNeg = 57 := rfl
theorem tn_58 : (58 : Int32).toNatClampNeg = 58 := rfl
theorem tn_59 : (59 : Int32).toNatClampNeg = 59 := rfl
theorem tn_60 : (60 : Int32).toNatClampNeg = 60 := rfl
theorem tn_61 : (61 : Int32).toNatClampNeg = 61 := rfl
theorem tn_62 : (62 : Int32).toNatClampNeg = 62 := rfl
theorem tn_63 : (63 : Int32).toNatClampNeg = 63 := rfl
theorem tn_65 : (65 : Int32).toNatClampNeg = 65 := rfl
theorem tn_67 : (67 : Int32).toNatClampNeg = 67 := rfl
theorem tn_248 : (248 : Int32).toNatClampNeg = 248 := rfl
theorem tn_255 : (255 : Int32).toNatClampNeg = 255 := rfl
theorem lz_1 : ((1 : Int32) < 0) = False := eq_false (by decide)
theorem lz_3 : ((3 : Int32) < 0) = False := eq_false (by decide)
theorem lz_10 : ((10 : Int32) < 0) = False := eq_false (by decide)
theorem lz_11 : ((11 : Int32) < 0) = False := eq_false (by decide)
theorem lz_13 : ((13 : Int32) < 0) = False := eq_false (by decide)
theorem lz_14 : ((14 : Int32) < 0) = False := eq_false (by decide)
theorem lz_15 : ((15 : Int32) < 0) = False := eq_false (by decide)
theorem lz_16 : ((16 : Int32) < 0) = False := eq_false (by decide)
theorem lz_17 : ((17 : Int32) < 0) = False := eq_false (by decide)
theorem lz_18 : ((18 : Int32) < 0) = False := eq_false (by decide)
theorem lz_19 : ((19 : Int32) < 0) = False := eq_false (by decide)
theorem lz_20 : ((20 : Int32) < 0) = False := eq_false (by decide)
theorem lz_21 : ((21 : Int32) < 0) = False := eq_false (by decide)
theorem lz_22 : ((22 : Int32) < 0) = False := eq_false (by decide)
theorem lz_23 : ((23 : Int32) < 0) = False := eq_false (by decide)
theorem lz_24 : ((24 : Int32) < 0) = False := eq_false (by decide)
theorem lz_25 : ((25 : Int32) < 0) = False := eq_false (by decide)
theorem lz_26 : ((26 : Int32) < 0) = False := eq_false (by decide)
theorem lz_27 : ((27 : Int32) < 0) = False := eq_false (by decide)
theorem lz_28 : ((28 : Int32) < 0) = False := eq_false (by decide)
theorem lz_29 : ((29 : Int32) < 0) = False := eq_false (by decide)
theorem lz_30 : ((30 : Int32) < 0) = False := eq_false (by decide)
theorem lz_31 : ((31 : Int32) < 0) = False := eq_false (by decide)
theorem lz_32 : ((32 : Int32) < 0) = False := eq_false (by decide)
theorem lz_33 : ((33 : Int32) < 0) = False := eq_false (by decide)
theorem lz_34 : ((34 : Int32) < 0) = False := eq_false (by decide)
theorem lz_35 : ((35 : Int32) < 0) = False := eq_false (by decide)
theorem lz_36 : ((36 : Int32) < 0) = False := eq_false (by decide)
theorem lz_37 : ((37 : Int32) < 0) = False := eq_false (by decide)
theorem lz_38 : ((38 : Int32) < 0) = False := eq_false (by decide)
theorem lz_39 : ((39 : Int32) < 0) = False := eq_false (by decide)
theorem lz_41 : ((41 : Int32) < 0) = False := eq_false (by decide)
theorem lz_42 : ((42 : Int32) < 0) = False := eq_false (by decide)
theorem lz_43 : ((43 : Int32) < 0) = False := eq_false (by decide)
theorem lz_44 : ((44 : Int32) < 0) = False := eq_false (by decide)
theorem lz_45 : ((45 : Int32) < 0) = False := eq_false (by decide)
theorem lz_46 : ((46 : Int32) < 0) = False := eq_false (by decide)
theorem lz_47 : ((47 : Int32) < 0) = False := eq_false (by decide)
theorem lz_48 : ((48 : Int32) < 0) = False := eq_false (by decide)
theorem lz_49 : ((49 : Int32) < 0) = False := eq_false (by decide)
theorem lz_50 : ((50 : Int32) < 0) = False := eq_false (by decide)
theorem lz_51 : ((51 : Int32) < 0) = False := eq_false (by decide)
theorem lz_52 : ((52 : Int32) < 0) = False := eq_false (by decide)
theorem lz_53 : ((53 : Int32) < 0) = False := eq_false (by decide)
theorem lz_54 : ((54 : Int32) < 0) = False := eq_false (by decide)
theorem lz_55 : ((55 : Int32) < 0) = False := eq_false (by decide)
theorem lz_56 : ((56 : Int32) < 0) = False := eq_false (by decide)
theorem lz_57 : ((57 : Int32) < 0) = False := eq_false (by decide)
theorem lz_58 : ((58 : Int32) < 0) = False := eq_false (by decide)
theorem lz_59 : ((59 : Int32) < 0) = False := eq_false (by decide)
theorem lz_60 : ((60 : Int32) < 0) = False := eq_false (by decide)
theorem lz_61 : ((61 : Int32) < 0) = False := eq_false (by decide)
theorem lz_62 : ((62 : Int32) < 0) = False := eq_false (by decide)
theorem lz_63 : ((63 : Int32) < 0) = False := eq_false (by decide)
theorem lz_65 : ((65 : Int32) < 0) = False := eq_false (by decide)
theorem lz_67 : ((67 : Int32) < 0) = False := eq_false (by decide)
theorem lz_248 : ((248 : Int32) < 0) = False := eq_false (by decide)
theorem lz_255 : ((255 : Int32) < 0) = False := eq_false (by decide)
theorem tb_32 : (32 : Int32).toInt8.toInt32 = 32 := rfl
theorem tb_97 : (97 : Int32).toInt8.toInt32 = 97 := rfl
theorem tb_98 : (98 : Int32).toInt8.toInt32 = 98 := rfl
theorem tb_99 : (99 : Int32).toInt8.toInt32 = 99 := rfl
theorem tb_100 : (100 : Int32).toInt8.toInt32 = 100 := rfl
theorem tb_101 : (101 : Int32).toInt8.toInt32 = 101 := rfl
theorem tb_102 : (102 : Int32).toInt8.toInt32 = 102 := rfl
theorem tb_103 : (103 : Int32).toInt8.toInt32 = 103 := rfl
theorem tb_104 : (104 : Int32).toInt8.toInt32 = 104 := rfl
theorem tb_105 : (105 : Int32).toInt8.toInt32 = 105 := rfl
theorem tb_106 : (106 : Int32).toInt8.toInt32 = 106 := rfl
theorem tb_107 : (107 : Int32).toInt8.toInt32 = 107 := rfl
theorem tb_108 : (108 : Int32).toInt8.toInt32 = 108 := rfl
theorem tb_109 : (109 : Int32).toInt8.toInt32 = 109 := rfl
theorem tb_110 : (110 : Int32).toInt8.toInt32 = 110 := rfl
theorem tb_111 : (111 : Int32).toInt8.toInt32 = 111 := rfl
theorem tb_112 : (112 : Int32).toInt8.toInt32 = 112 := rfl
theorem tb_113 : (113 : Int32).toInt8.toInt32 = 113 := rfl
theorem tb_114 : (114 : Int32).toInt8.toInt32 = 114 := rfl
theorem tb_115 : (115 : Int32).toInt8.toInt32 = 115 := rfl
theorem tb_116 : (116 : Int32).toInt8.toInt32 = 116 := rfl
theorem tb_117 : (117 : Int32).toInt8.toInt32 = 117 := rfl
theorem tb_118 : (118 : Int32).toInt8.toInt32 = 118 := rfl
theorem tb_119 : (119 : Int32).toInt8.toInt32 = 119 := rfl
theorem tb_120 : (120 : Int32).toInt8.toInt32 = 120 := rfl
theorem tb_121 : (121 : Int32).toInt8.toInt32 = 121 := rfl
theorem tb_122 : (122 : Int32).toInt8.toInt32 = 122 := rfl
/-- CornerTownModel -/
def i_168 (σ : gS) (a : Nat) : gS := (sI (sI (sR (sNw (sR (sNw (sR (sNw (sR (sNw (sR (sNw (sR (sNw (sR (sNw (sR (sNw (sR (sNw (sR (sNw (sR (sNw (sI (sI (sI (sI (sR (sNw (sR (sNw (sR (sNw (sR (sNw (sR (sNw (sR (sNw (sR (sNw (sI (sR (sNw (sR (sNw (sR (sI (sI (sI (sI (sI (sI (sI (sI (sI (sI (sI (sI (sI (sI (sI (sI (sI (sI (sI (sI (sI (sI (sI (sI (sI (sI (sI (sI (sI (sI (sI (sI (sI (sI (sI (sI (sI (sI (sI (sI (sI (sI (sI (sI (sI (sI (sI (sI (sI (sI (sI (sI (sI (sI (sI (sI (sI (sI (sI (sI (sI (sI (sI (sI (sI (sI (sI (sI (sNw (sR (sNw (sR (sNw (sR (sNw (sR (sNw σ 21 7 7) a 2 (some (gn σ))) 21 5062 5062) a 3 (some (gn σ + 1))) 21 10124 10124) a 4 (some (gn σ + 2))) 23 2 2) a 5 (some (gn σ + 3))) 20 68 68) (gn σ + 4) 0 (116)) (gn σ + 4) 1 (97)) (gn σ + 4) 2 (107)) (gn σ + 4) 3 (101)) (gn σ + 4) 4 (115)) (gn σ + 4) 5 (32)) (gn σ + 4) 6 (98)) (gn σ + 4) 7 (97)) (gn σ + 4) 8 (114)) (gn σ + 4) 9 (115)) (gn σ + 4) 10 (32)) (gn σ + 4) 11 (105)) (gn σ + 4) 12 (102)) (gn σ + 4) 13 (32)) (gn σ + 4) 14 (111)) (gn σ + 4) 15 (114)) (gn σ + 4) 16 (32)) (gn σ + 4) 17 (97)) (gn σ + 4) 18 (110)) (gn σ + 4) 19 (100)) (gn σ + 4) 20 (32)) (gn σ + 4) 21 (110)) (gn σ + 4) 22 (111)) (gn σ + 4) 23 (116)) (gn σ + 4) 24 (32)) (gn σ + 4) 25 (102)) (gn σ + 4) 26 (114)) (gn σ + 4) 27 (111)) (gn σ + 4) 28 (109)) (gn σ + 4) 29 (32)) (gn σ + 4) 30 (116)) (gn σ + 4) 31 (111)) (gn σ + 4) 32 (32)) (gn σ + 4) 33 (114)) (gn σ + 4) 34 (97)) (gn σ + 4) 35 (110)) (gn σ + 4) 36 (107)) (gn σ + 4) 37 (32)) (gn σ + 4) 38 (111)) (gn σ + 4) 39 (116)) (gn σ + 4) 40 (104)) (gn σ + 4) 41 (101)) (gn σ + 4) 42 (114)) (gn σ + 4) 43 (32)) (gn σ + 4) 44 (97)) (gn σ + 4) 45 (114)) (gn σ + 4) 46 (101)) (gn σ + 4) 47 (97)) (gn σ + 4) 48 (32)) (gn σ + 4) 49 (121)) (gn σ + 4) 50 (97)) (gn σ + 4) 51 (114)) (gn σ + 4) 52 (100)) (gn σ + 4) 53 (32)) (gn σ + 4) 54 (100)) (gn σ + 4) 55 (111)) (gn σ + 4) 56 (111)) (gn σ + 4) 57 (114)) (gn σ + 4) 58 (32)) (gn σ + 4) 59 (104)) (gn σ + 4) 60 (111)) (gn σ + 4) 61 (117)) (gn σ + 4) 62 (114)) (gn σ + 4) 63 (32)) (gn σ + 4) 64 (100)) (gn σ + 4) 65 (97)) (gn σ + 4) 66 (121)) (gn σ + 4) 67 (32)) a 7 (some (gn σ + 4))) 20 400 400) a 8 (some (gn σ + 5))) 21 5 5) a 9 (some (gn σ + 6))) a 11 (-1)) 21 401 401) a 12 (some (gn σ + 7))) 21 401 401) a 13 (some (gn σ + 8))) 21 401 401) a 14 (some (gn σ + 9))) 21 9 9) a 22 (some (gn σ + 10))) 21 12 12) a 25 (some (gn σ + 11))) 21 144 144) a 26 (some (gn σ + 12))) 23 144 144) a 27 (some (gn σ + 13))) a 28 (-1)) a 29 (-1)) a 30 (-1)) a 32 (-1)) 21 12 12) a 34 (some (gn σ + 14))) 21 12 12) a 35 (some (gn σ + 15))) 21 12 12) a 36 (some (gn σ + 16))) 21 12 12) a 37 (some (gn σ + 17))) 21 12 12) a 38 (some (gn σ + 18))) 21 4 4) a 40 (some (gn σ + 19))) 21 12 12) a 43 (some (gn σ + 20))) 21 144 144) a 44 (some (gn σ + 21))) 21 49152 49152) a 45 (some (gn σ + 22))) 21 40 40) a 46 (some (gn σ + 23))) 21 40 40) a 47 (some (gn σ + 24))) (gn σ + 1) 248 (12)) (gn σ + 1) 255 (-1))
set_option maxHeartbeats 4000000 in
set_option maxRecDepth 20000 in
theorem s_i_168 {d : Nat} {Q : Option Value → gS → Prop} {σ : gS} {a : Nat} (hK : gK σ a = 13) (ha : a < gn σ) : wc (d + 1) 168 [.ref a] σ Q ↔ Q none (i_168 σ a) := by
  have hne : ∀ j, ¬ a = gn σ + j := fun j => by omega
  have hn0 : ¬ a = gn σ := by omega
  unfold i_168
  simp only [c_168, e_168_0, e_168_1, e_168_4, e_168_5, e_168_7, e_168_9, e_168_12, e_168_13, e_168_16, e_168_18, e_168_21, e_168_22, e_168_25, e_168_27, e_168_30, e_168_31, e_168_32, e_168_34, e_168_37, e_168_38, e_168_40, e_168_42, e_168_42n, e_168_43, e_168_44, e_168_46, e_168_46n, e_168_47, e_168_47n, e_168_48, e_168_49, e_168_51, e_168_51n, e_168_52, e_168_52n, e_168_53, e_168_54, e_168_56, e_168_56n, e_168_57, e_168_57n, e_168_58, e_168_59, e_168_61, e_168_61n, e_168_62, e_168_62n, e_168_63, e_168_64, e_168_66, e_168_66n, e_168_67, e_168_67n, e_168_68, e_168_69, e_168_71, e_168_71n, e_168_72, e_168_72n, e_168_73, e_168_75, e_168_77, e_168_77n, e_168_78, e_168_78n, e_168_79, e_168_81, e_168_83, e_168_83n, e_168_84, e_168_84n, e_168_85, e_168_87, e_168_89, e_168_89n, e_168_90, e_168_90n, e_168_91, e_168_93, e_168_95, e_168_95n, e_168_96, e_168_96n, e_168_97, e_168_99, e_168_101, e_168_101n, e_168_102, e_168_102n, e_168_103, e_168_105, e_168_107, e_168_107n, e_168_108, e_168_108n, e_168_109, e_168_111, e_168_113, e_168_113n, e_168_114, e_168_114n, e_168_115, e_168_117, e_168_119, e_168_119n, e_168_120, e_168_120n, e_168_121, e_168_123, e_168_125, e_168_125n, e_168_126, e_168_126n, e_168_127, e_168_129, e_168_131, e_168_131n, e_168_132, e_168_132n, e_168_133, e_168_135, e_168_137, e_168_137n, e_168_138, e_168_138n, e_168_139, e_168_141, e_168_143, e_168_143n, e_168_144, e_168_144n, e_168_145, e_168_147, e_168_149, e_168_149n, e_168_150, e_168_150n, e_168_151, e_168_153, e_168_155, e_168_155n, e_168_156, e_168_156n, e_168_157, e_168_159, e_168_161, e_168_161n, e_168_162, e_168_162n, e_168_163, e_168_165, e_168_167, e_168_167n, e_168_168, e_168_168n, e_168_169, e_168_171, e_168_173, e_168_173n, e_168_174, e_168_174n, e_168_175, e_168_177, e_168_179, e_168_179n, e_168_180, e_168_180n, e_168_181, e_168_183, e_168_185, e_168_185n, e_168_186, e_168_186n, e_168_187, e_168_189, e_168_191, e_168_191n, e_168_192, e_168_192n, e_168_193, e_168_195, e_168_197, e_168_197n, e_168_198, e_168_198n, e_168_199, e_168_201, e_168_203, e_168_203n, e_168_204, e_168_204n, e_168_205, e_168_207, e_168_209, e_168_209n, e_168_210, e_168_210n, e_168_211, e_168_213, e_168_215, e_168_215n, e_168_216, e_168_216n, e_168_217, e_168_219, e_168_221, e_168_221n, e_168_222, e_168_222n, e_168_223, e_168_225, e_168_227, e_168_227n, e_168_228, e_168_228n, e_168_229, e_168_231, e_168_233, e_168_233n, e_168_234, e_168_234n, e_168_235, e_168_237, e_168_239, e_168_239n, e_168_240, e_168_240n, e_168_241, e_168_243, e_168_245, e_168_245n, e_168_246, e_168_246n, e_168_247, e_168_249, e_168_251, e_168_251n, e_168_252, e_168_252n, e_168_253, e_168_255, e_168_257, e_168_257n, e_168_258, e_168_258n, e_168_259, e_168_261, e_168_263, e_168_263n, e_168_264, e_168_264n, e_168_265, e_168_267, e_168_269, e_168_269n, e_168_270, e_168_270n, e_168_271, e_168_273, e_168_275, e_168_275n, e_168_276, e_168_276n, e_168_277, e_168_279, e_168_281, e_168_281n, e_168_282, e_168_282n, e_168_283, e_168_285, e_168_287, e_168_287n, e_168_288, e_168_288n, e_168_289, e_168_291, e_168_293, e_168_293n, e_168_294, e_168_294n, e_168_295, e_168_297, e_168_299, e_168_299n, e_168_300, e_168_300n, e_168_301, e_168_303, e_168_305, e_168_305n, e_168_306, e_168_306n, e_168_307, e_168_309, e_168_311, e_168_311n, e_168_312, e_168_312n, e_168_313, e_168_315, e_168_317, e_168_317n, e_168_318, e_168_318n, e_168_319, e_168_321, e_168_323, e_168_323n, e_168_324, e_168_324n, e_168_325, e_168_327, e_168_329, e_168_329n, e_168_330, e_168_330n, e_168_331, e_168_333, e_168_335, e_168_335n, e_168_336, e_168_336n, e_168_337, e_168_339, e_168_341, e_168_341n, e_168_342, e_168_342n, e_168_343, e_168_345, e_168_347, e_168_347n, e_168_348, e_168_348n, e_168_349, e_168_351, e_168_353, e_168_353n, e_168_354, e_168_354n, e_168_355, e_168_357, e_168_359, e_168_359n, e_168_360, e_168_360n, e_168_361, e_168_363, e_168_365, e_168_365n, e_168_366, e_168_366n, e_168_367, e_168_369, e_168_371, e_168_371n, e_168_372, e_168_372n, e_168_373, e_168_375, e_168_377, e_168_377n, e_168_378, e_168_378n, e_168_379, e_168_381, e_168_383, e_168_383n, e_168_384, e_168_384n, e_168_385, e_168_387, e_168_389, e_168_389n, e_168_390, e_168_390n, e_168_391, e_168_393, e_168_395, e_168_395n, e_168_396, e_168_396n, e_168_397, e_168_399, e_168_401, e_168_401n, e_168_402, e_168_402n, e_168_403, e_168_405, e_168_407, e_168_407n, e_168_408, e_168_408n, e_168_409, e_168_411, e_168_413, e_168_413n, e_168_414, e_168_414n, e_168_415, e_168_417, e_168_419, e_168_419n, e_168_420, e_168_420n, e_168_421, e_168_423, e_168_425, e_168_425n, e_168_426, e_168_426n, e_168_427, e_168_429, e_168_431, e_168_431n, e_168_432, e_168_432n, e_168_433, e_168_435, e_168_437, e_168_437n, e_168_438, e_168_438n, e_168_439, e_168_441, e_168_443, e_168_443n, e_168_444, e_168_447, e_168_448, e_168_451, e_168_453, e_168_456, e_168_457, e_168_458, e_168_460, e_168_463, e_168_464, e_168_465, e_168_468, e_168_469, e_168_472, e_168_474, e_168_477, e_168_478, e_168_481, e_168_483, e_168_486, e_168_487, e_168_490, e_168_492, e_168_495, e_168_496, e_168_498, e_168_500, e_168_503, e_168_504, e_168_506, e_168_508, e_168_511, e_168_512, e_168_515, e_168_517, e_168_520, e_168_521, e_168_524, e_168_526, e_168_529, e_168_530, e_168_531, e_168_534, e_168_535, e_168_536, e_168_539, e_168_540, e_168_541, e_168_544, e_168_545, e_168_546, e_168_549, e_168_550, e_168_552, e_168_554, e_168_557, e_168_558, e_168_560, e_168_562, e_168_565, e_168_566, e_168_568, e_168_570, e_168_573, e_168_574, e_168_576, e_168_578, e_168_581, e_168_582, e_168_584, e_168_586, e_168_589, e_168_590, e_168_591, e_168_593, e_168_596, e_168_597, e_168_599, e_168_601, e_168_604, e_168_605, e_168_608, e_168_610, e_168_613, e_168_614, e_168_616, e_168_618, e_168_621, e_168_622, e_168_624, e_168_626, e_168_629, e_168_630, e_168_632, e_168_634, e_168_637, e_168_638, e_168_641, e_168_644, e_168_646, e_168_647, e_168_648, e_168_651, e_168_654, e_168_655, e_168_656,  tn_0, lz_0, tn_2, lz_2, tn_4, lz_4, tn_5, lz_5, tn_6, lz_6, tn_7, lz_7, tn_8, lz_8, tn_9, lz_9, tn_12, lz_12, tn_40, lz_40, tn_64, lz_64, tn_66, lz_66, tn_68, lz_68, tn_144, lz_144, tn_400, lz_400, tn_401, lz_401, tn_5062, lz_5062, tn_10124, lz_10124, tn_49152, lz_49152, zl_4, zl_8, tn_1, lz_1, tn_3, lz_3, tn_10, lz_10, tn_11, lz_11, tn_13, lz_13, tn_14, lz_14, tn_15, lz_15, tn_16, lz_16, tn_17, lz_17, tn_18, lz_18, tn_19, lz_19, tn_20, lz_20, tn_21, lz_21, tn_22, lz_22, tn_23, lz_23, tn_24, lz_24, tn_25, lz_25, tn_26, lz_26, tn_27, lz_27, tn_28, lz_28, tn_29, lz_29, tn_30, lz_30, tn_31, lz_31, tn_32, lz_32, tn_33, lz_33, tn_34, lz_34, tn_35, lz_35, tn_36, lz_36, tn_37, lz_37, tn_38, lz_38, tn_39, lz_39, tn_41, lz_41, tn_42, lz_42, tn_43, lz_43, tn_44, lz_44, tn_45, lz_45, tn_46, lz_46, tn_47, lz_47, tn_48, lz_48, tn_49, lz_49, tn_50, lz_50, tn_51, lz_51, tn_52, lz_52, tn_53, lz_53, tn_54, lz_54, tn_55, lz_55, tn_56, lz_56, tn_57, lz_57, tn_58, lz_58, tn_59, lz_59, tn_60, lz_60, tn_61, lz_61, tn_62, lz_62, tn_63, lz_63, tn_65, lz_65, tn_67, lz_67, tn_248, lz_248, tn_255, lz_255, tb_32, tb_97, tb_98, tb_99, tb_100, tb_101, tb_102, tb_103, tb_104, tb_105, tb_106, tb_107, tb_108, tb_109, tb_110, tb_111, tb_112, tb_113, tb_114, tb_115, tb_116, tb_117, tb_118, tb_119, tb_120, tb_121, tb_122, Nat.reduceLT, hK, hne, hn0, if_false, if_true, n_K_I, n_K_J, n_K_R, n_K_N, n_n_I, n_n_J, n_n_R, n_n_N, n_R_I, n_R_J, n_R_R, n_R_N, n_N_I, n_N_J, n_N_R, n_N_N, and_self, false_and, and_false, Option.some.injEq, exists_eq_left, exists_eq_left', true_and, and_true, or_true, true_or, or_self, Nat.add_assoc, Nat.reduceAdd, Nat.add_left_cancel_iff, Nat.add_right_cancel_iff, Nat.reduceEqDiff, Nat.left_eq_add, Nat.add_eq_left, List.length_cons, List.length_nil, Nat.reduceLeDiff, Nat.zero_le, Option.toList_none, List.nil_append, Nat.lt_add_right_iff_pos, Nat.add_lt_add_iff_left, Nat.reduceLT, Nat.zero_lt_succ, Nat.lt_add_one, eq_self, not_false_eq_true]
