theorem bw09_948_kw_0 : ∀ w ∈ ([Cond.methodLink RX0 3 Lib.objectInit, Cond.instanceMethod Lib.objectInit, Cond.code Lib.objectInit ⟨#[0xb1]⟩ 1 none, Cond.arrayClass .int, Cond.methodLink RX1 3 Lib.objectInit, Cond.methodLink RX6 3 Lib.objectInit, Cond.methodLink RX2 3 Lib.objectInit, Cond.methodLink RX9 3 Lib.objectInit, Cond.arrayClass .byte, Cond.classLink RX9 23 RX2, Cond.instantiable RX2 15, Cond.methodLink RX9 25 yX2_init, Cond.code yX2_init cX2_init 1 none, Cond.instanceMethod yX2_init, Cond.classLink RX9 30 RX1, Cond.instantiable RX1 4, Cond.methodLink RX9 32 yX1_init, Cond.code yX1_init cX1_init 1 none, Cond.instanceMethod yX1_init, Cond.classLink RX9 37 RX6, Cond.instantiable RX6 4, Cond.methodLink RX9 39 yX6_init, Cond.code yX6_init cX6_init 1 none, Cond.instanceMethod yX6_init, Cond.classLink RX9 44 RX0, Cond.instantiable RX0 4, Cond.methodLink RX9 46 yX0_init, Cond.code yX0_init cX0_init 1 none, Cond.instanceMethod yX0_init, Cond.methodLink RX4 3 Lib.objectInit, Cond.classLink RX4 9 RX2, Cond.methodLink RX4 11 yX2_init, Cond.classLink RX4 18 RX1, Cond.methodLink RX4 20 yX1_init, Cond.classLink RX4 25 RX6, Cond.methodLink RX4 27 yX6_init, Cond.classLink RX4 32 RX0, Cond.methodLink RX4 34 yX0_init, Cond.methodLink RX3 3 Lib.objectInit, Cond.methodLink RX7 3 Lib.objectInit] : List Cond), w ∈ zb := uw_of [329, 172, 173, 270, 277, 303, 186, 179, 269, 180, 182, 183, 185, 184, 271, 273, 274, 276, 275, 297, 299, 300, 302, 301, 323, 325, 326, 328, 327, 391, 392, 393, 394, 395, 396, 397, 398, 399, 457, 495] (by decide +kernel) (by decide +kernel)
theorem km_0_3 : Cond.methodLink RX0 3 Lib.objectInit ∈ zb := bw09_948_kw_0 _ (.head _)
theorem k_oi : Cond.instanceMethod Lib.objectInit ∈ zb := bw09_948_kw_0 _ (.tail _ (.head _))
theorem k_oc : Cond.code Lib.objectInit ⟨#[0xb1]⟩ 1 none ∈ zb := bw09_948_kw_0 _ (.tail _ (.tail _ (.head _)))
theorem kac_I : Cond.arrayClass .int ∈ zb := bw09_948_kw_0 _ (.tail _ (.tail _ (.tail _ (.head _))))
theorem km_1_3 : Cond.methodLink RX1 3 Lib.objectInit ∈ zb := bw09_948_kw_0 _ (.tail _ (.tail _ (.tail _ (.tail _ (.head _)))))
theorem km_6_3 : Cond.methodLink RX6 3 Lib.objectInit ∈ zb := bw09_948_kw_0 _ (.tail _ (.tail _ (.tail _ (.tail _ (.tail _ (.head _))))))
theorem km_2_3 : Cond.methodLink RX2 3 Lib.objectInit ∈ zb := bw09_948_kw_0 _ (.tail _ (.tail _ (.tail _ (.tail _ (.tail _ (.tail _ (.head _)))))))
theorem km_9_3 : Cond.methodLink RX9 3 Lib.objectInit ∈ zb := bw09_948_kw_0 _ (.tail _ (.tail _ (.tail _ (.tail _ (.tail _ (.tail _ (.tail _ (.head _))))))))
theorem kac_B : Cond.arrayClass .byte ∈ zb := bw09_948_kw_0 _ (.tail _ (.tail _ (.tail _ (.tail _ (.tail _ (.tail _ (.tail _ (.tail _ (.head _)))))))))
theorem kcl_9_23 : Cond.classLink RX9 23 RX2 ∈ zb := bw09_948_kw_0 _ (.tail _ (.tail _ (.tail _ (.tail _ (.tail _ (.tail _ (.tail _ (.tail _ (.tail _ (.head _))))))))))
theorem kins_2 : Cond.instantiable RX2 15 ∈ zb := bw09_948_kw_0 _ (.tail _ (.tail _ (.tail _ (.tail _ (.tail _ (.tail _ (.tail _ (.tail _ (.tail _ (.tail _ (.head _)))))))))))
theorem km_9_25 : Cond.methodLink RX9 25 yX2_init ∈ zb := bw09_948_kw_0 _ (.tail _ (.tail _ (.tail _ (.tail _ (.tail _ (.tail _ (.tail _ (.tail _ (.tail _ (.tail _ (.tail _ (.head _))))))))))))
theorem kcode_X2_init : Cond.code yX2_init cX2_init 1 none ∈ zb := bw09_948_kw_0 _ (.tail _ (.tail _ (.tail _ (.tail _ (.tail _ (.tail _ (.tail _ (.tail _ (.tail _ (.tail _ (.tail _ (.tail _ (.head _)))))))))))))
theorem kin_X2_init : Cond.instanceMethod yX2_init ∈ zb := bw09_948_kw_0 _ (.tail _ (.tail _ (.tail _ (.tail _ (.tail _ (.tail _ (.tail _ (.tail _ (.tail _ (.tail _ (.tail _ (.tail _ (.tail _ (.head _))))))))))))))
theorem kcl_9_30 : Cond.classLink RX9 30 RX1 ∈ zb := bw09_948_kw_0 _ (.tail _ (.tail _ (.tail _ (.tail _ (.tail _ (.tail _ (.tail _ (.tail _ (.tail _ (.tail _ (.tail _ (.tail _ (.tail _ (.tail _ (.head _)))))))))))))))
theorem kins_1 : Cond.instantiable RX1 4 ∈ zb := bw09_948_kw_0 _ (.tail _ (.tail _ (.tail _ (.tail _ (.tail _ (.tail _ (.tail _ (.tail _ (.tail _ (.tail _ (.tail _ (.tail _ (.tail _ (.tail _ (.tail _ (.head _))))))))))))))))
theorem km_9_32 : Cond.methodLink RX9 32 yX1_init ∈ zb := bw09_948_kw_0 _ (.tail _ (.tail _ (.tail _ (.tail _ (.tail _ (.tail _ (.tail _ (.tail _ (.tail _ (.tail _ (.tail _ (.tail _ (.tail _ (.tail _ (.tail _ (.tail _ (.head _)))))))))))))))))
theorem kcode_X1_init : Cond.code yX1_init cX1_init 1 none ∈ zb := bw09_948_kw_0 _ (.tail _ (.tail _ (.tail _ (.tail _ (.tail _ (.tail _ (.tail _ (.tail _ (.tail _ (.tail _ (.tail _ (.tail _ (.tail _ (.tail _ (.tail _ (.tail _ (.tail _ (.head _))))))))))))))))))
theorem kin_X1_init : Cond.instanceMethod yX1_init ∈ zb := bw09_948_kw_0 _ (.tail _ (.tail _ (.tail _ (.tail _ (.tail _ (.tail _ (.tail _ (.tail _ (.tail _ (.tail _ (.tail _ (.tail _ (.tail _ (.tail _ (.tail _ (.tail _ (.tail _ (.tail _ (.head _)))))))))))))))))))
theorem kcl_9_37 : Cond.classLink RX9 37 RX6 ∈ zb := bw09_948_kw_0 _ (.tail _ (.tail _ (.tail _ (.tail _ (.tail _ (.tail _ (.tail _ (.tail _ (.tail _ (.tail _ (.tail _ (.tail _ (.tail _ (.tail _ (.tail _ (.tail _ (.tail _ (.tail _ (.tail _ (.head _))))))))))))))))))))
theorem kins_6 : Cond.instantiable RX6 4 ∈ zb := bw09_948_kw_0 _ (.tail _ (.tail _ (.tail _ (.tail _ (.tail _ (.tail _ (.tail _ (.tail _ (.tail _ (.tail _ (.tail _ (.tail _ (.tail _ (.tail _ (.tail _ (.tail _ (.tail _ (.tail _ (.tail _ (.tail _ (.head _)))))))))))))))))))))
theorem km_9_39 : Cond.methodLink RX9 39 yX6_init ∈ zb := bw09_948_kw_0 _ (.tail _ (.tail _ (.tail _ (.tail _ (.tail _ (.tail _ (.tail _ (.tail _ (.tail _ (.tail _ (.tail _ (.tail _ (.tail _ (.tail _ (.tail _ (.tail _ (.tail _ (.tail _ (.tail _ (.tail _ (.tail _ (.head _))))))))))))))))))))))
theorem kcode_X6_init : Cond.code yX6_init cX6_init 1 none ∈ zb := bw09_948_kw_0 _ (.tail _ (.tail _ (.tail _ (.tail _ (.tail _ (.tail _ (.tail _ (.tail _ (.tail _ (.tail _ (.tail _ (.tail _ (.tail _ (.tail _ (.tail _ (.tail _ (.tail _ (.tail _ (.tail _ (.tail _ (.tail _ (.tail _ (.head _)))))))))))))))))))))))
theorem kin_X6_init : Cond.instanceMethod yX6_init ∈ zb := bw09_948_kw_0 _ (.tail _ (.tail _ (.tail _ (.tail _ (.tail _ (.tail _ (.tail _ (.tail _ (.tail _ (.tail _ (.tail _ (.tail _ (.tail _ (.tail _ (.tail _ (.tail _ (.tail _ (.tail _ (.tail _ (.tail _ (.tail _ (.tail _ (.tail _ (.head _))))))))))))))))))))))))
theorem kcl_9_44 : Cond.classLink RX9 44 RX0 ∈ zb := bw09_948_kw_0 _ (.tail _ (.tail _ (.tail _ (.tail _ (.tail _ (.tail _ (.tail _ (.tail _ (.tail _ (.tail _ (.tail _ (.tail _ (.tail _ (.tail _ (.tail _ (.tail _ (.tail _ (.tail _ (.tail _ (.tail _ (.tail _ (.tail _ (.tail _ (.tail _ (.head _)))))))))))))))))))))))))
theorem kins_0 : Cond.instantiable RX0 4 ∈ zb := bw09_948_kw_0 _ (.tail _ (.tail _ (.tail _ (.tail _ (.tail _ (.tail _ (.tail _ (.tail _ (.tail _ (.tail _ (.tail _ (.tail _ (.tail _ (.tail _ (.tail _ (.tail _ (.tail _ (.tail _ (.tail _ (.tail _ (.tail _ (.tail _ (.tail _ (.tail _ (.tail _ (.head _))))))))))))))))))))))))))
theorem km_9_46 : Cond.methodLink RX9 46 yX0_init ∈ zb := bw09_948_kw_0 _ (.tail _ (.tail _ (.tail _ (.tail _ (.tail _ (.tail _ (.tail _ (.tail _ (.tail _ (.tail _ (.tail _ (.tail _ (.tail _ (.tail _ (.tail _ (.tail _ (.tail _ (.tail _ (.tail _ (.tail _ (.tail _ (.tail _ (.tail _ (.tail _ (.tail _ (.tail _ (.head _)))))))))))))))))))))))))))
theorem kcode_X0_init : Cond.code yX0_init cX0_init 1 none ∈ zb := bw09_948_kw_0 _ (.tail _ (.tail _ (.tail _ (.tail _ (.tail _ (.tail _ (.tail _ (.tail _ (.tail _ (.tail _ (.tail _ (.tail _ (.tail _ (.tail _ (.tail _ (.tail _ (.tail _ (.tail _ (.tail _ (.tail _ (.tail _ (.tail _ (.tail _ (.tail _ (.tail _ (.tail _ (.tail _ (.head _))))))))))))))))))))))))))))
theorem kin_X0_init : Cond.instanceMethod yX0_init ∈ zb := bw09_948_kw_0 _ (.tail _ (.tail _ (.tail _ (.tail _ (.tail _ (.tail _ (.tail _ (.tail _ (.tail _ (.tail _ (.tail _ (.tail _ (.tail _ (.tail _ (.tail _ (.tail _ (.tail _ (.tail _ (.tail _ (.tail _ (.tail _ (.tail _ (.tail _ (.tail _ (.tail _ (.tail _ (.tail _ (.tail _ (.head _)))))))))))))))))))))))))))))
theorem km_4_3 : Cond.methodLink RX4 3 Lib.objectInit ∈ zb := bw09_948_kw_0 _ (.tail _ (.tail _ (.tail _ (.tail _ (.tail _ (.tail _ (.tail _ (.tail _ (.tail _ (.tail _ (.tail _ (.tail _ (.tail _ (.tail _ (.tail _ (.tail _ (.tail _ (.tail _ (.tail _ (.tail _ (.tail _ (.tail _ (.tail _ (.tail _ (.tail _ (.tail _ (.tail _ (.tail _ (.tail _ (.head _))))))))))))))))))))))))))))))
theorem kcl_4_9 : Cond.classLink RX4 9 RX2 ∈ zb := bw09_948_kw_0 _ (.tail _ (.tail _ (.tail _ (.tail _ (.tail _ (.tail _ (.tail _ (.tail _ (.tail _ (.tail _ (.tail _ (.tail _ (.tail _ (.tail _ (.tail _ (.tail _ (.tail _ (.tail _ (.tail _ (.tail _ (.tail _ (.tail _ (.tail _ (.tail _ (.tail _ (.tail _ (.tail _ (.tail _ (.tail _ (.tail _ (.head _)))))))))))))))))))))))))))))))
theorem km_4_11 : Cond.methodLink RX4 11 yX2_init ∈ zb := bw09_948_kw_0 _ (.tail _ (.tail _ (.tail _ (.tail _ (.tail _ (.tail _ (.tail _ (.tail _ (.tail _ (.tail _ (.tail _ (.tail _ (.tail _ (.tail _ (.tail _ (.tail _ (.tail _ (.tail _ (.tail _ (.tail _ (.tail _ (.tail _ (.tail _ (.tail _ (.tail _ (.tail _ (.tail _ (.tail _ (.tail _ (.tail _ (.tail _ (.head _))))))))))))))))))))))))))))))))
theorem kcl_4_18 : Cond.classLink RX4 18 RX1 ∈ zb := bw09_948_kw_0 _ (.tail _ (.tail _ (.tail _ (.tail _ (.tail _ (.tail _ (.tail _ (.tail _ (.tail _ (.tail _ (.tail _ (.tail _ (.tail _ (.tail _ (.tail _ (.tail _ (.tail _ (.tail _ (.tail _ (.tail _ (.tail _ (.tail _ (.tail _ (.tail _ (.tail _ (.tail _ (.tail _ (.tail _ (.tail _ (.tail _ (.tail _ (.tail _ (.head _)))))))))))))))))))))))))))))))))
theorem km_4_20 : Cond.methodLink RX4 20 yX1_init ∈ zb := bw09_948_kw_0 _ (.tail _ (.tail _ (.tail _ (.tail _ (.tail _ (.tail _ (.tail _ (.tail _ (.tail _ (.tail _ (.tail _ (.tail _ (.tail _ (.tail _ (.tail _ (.tail _ (.tail _ (.tail _ (.tail _ (.tail _ (.tail _ (.tail _ (.tail _ (.tail _ (.tail _ (.tail _ (.tail _ (.tail _ (.tail _ (.tail _ (.tail _ (.tail _ (.tail _ (.head _))))))))))))))))))))))))))))))))))
theorem kcl_4_25 : Cond.classLink RX4 25 RX6 ∈ zb := bw09_948_kw_0 _ (.tail _ (.tail _ (.tail _ (.tail _ (.tail _ (.tail _ (.tail _ (.tail _ (.tail _ (.tail _ (.tail _ (.tail _ (.tail _ (.tail _ (.tail _ (.tail _ (.tail _ (.tail _ (.tail _ (.tail _ (.tail _ (.tail _ (.tail _ (.tail _ (.tail _ (.tail _ (.tail _ (.tail _ (.tail _ (.tail _ (.tail _ (.tail _ (.tail _ (.tail _ (.head _)))))))))))))))))))))))))))))))))))
theorem km_4_27 : Cond.methodLink RX4 27 yX6_init ∈ zb := bw09_948_kw_0 _ (.tail _ (.tail _ (.tail _ (.tail _ (.tail _ (.tail _ (.tail _ (.tail _ (.tail _ (.tail _ (.tail _ (.tail _ (.tail _ (.tail _ (.tail _ (.tail _ (.tail _ (.tail _ (.tail _ (.tail _ (.tail _ (.tail _ (.tail _ (.tail _ (.tail _ (.tail _ (.tail _ (.tail _ (.tail _ (.tail _ (.tail _ (.tail _ (.tail _ (.tail _ (.tail _ (.head _))))))))))))))))))))))))))))))))))))
theorem kcl_4_32 : Cond.classLink RX4 32 RX0 ∈ zb := bw09_948_kw_0 _ (.tail _ (.tail _ (.tail _ (.tail _ (.tail _ (.tail _ (.tail _ (.tail _ (.tail _ (.tail _ (.tail _ (.tail _ (.tail _ (.tail _ (.tail _ (.tail _ (.tail _ (.tail _ (.tail _ (.tail _ (.tail _ (.tail _ (.tail _ (.tail _ (.tail _ (.tail _ (.tail _ (.tail _ (.tail _ (.tail _ (.tail _ (.tail _ (.tail _ (.tail _ (.tail _ (.tail _ (.head _)))))))))))))))))))))))))))))))))))))
theorem km_4_34 : Cond.methodLink RX4 34 yX0_init ∈ zb := bw09_948_kw_0 _ (.tail _ (.tail _ (.tail _ (.tail _ (.tail _ (.tail _ (.tail _ (.tail _ (.tail _ (.tail _ (.tail _ (.tail _ (.tail _ (.tail _ (.tail _ (.tail _ (.tail _ (.tail _ (.tail _ (.tail _ (.tail _ (.tail _ (.tail _ (.tail _ (.tail _ (.tail _ (.tail _ (.tail _ (.tail _ (.tail _ (.tail _ (.tail _ (.tail _ (.tail _ (.tail _ (.tail _ (.tail _ (.head _))))))))))))))))))))))))))))))))))))))
theorem km_3_3 : Cond.methodLink RX3 3 Lib.objectInit ∈ zb := bw09_948_kw_0 _ (.tail _ (.tail _ (.tail _ (.tail _ (.tail _ (.tail _ (.tail _ (.tail _ (.tail _ (.tail _ (.tail _ (.tail _ (.tail _ (.tail _ (.tail _ (.tail _ (.tail _ (.tail _ (.tail _ (.tail _ (.tail _ (.tail _ (.tail _ (.tail _ (.tail _ (.tail _ (.tail _ (.tail _ (.tail _ (.tail _ (.tail _ (.tail _ (.tail _ (.tail _ (.tail _ (.tail _ (.tail _ (.tail _ (.head _)))))))))))))))))))))))))))))))))))))))
theorem km_7_3 : Cond.methodLink RX7 3 Lib.objectInit ∈ zb := bw09_948_kw_0 _ (.tail _ (.tail _ (.tail _ (.tail _ (.tail _ (.tail _ (.tail _ (.tail _ (.tail _ (.tail _ (.tail _ (.tail _ (.tail _ (.tail _ (.tail _ (.tail _ (.tail _ (.tail _ (.tail _ (.tail _ (.tail _ (.tail _ (.tail _ (.tail _ (.tail _ (.tail _ (.tail _ (.tail _ (.tail _ (.tail _ (.tail _ (.tail _ (.tail _ (.tail _ (.tail _ (.tail _ (.tail _ (.tail _ (.tail _ (.head _))))))))))))))))))))))))))))))))))))))))
theorem bw09_948_kw_1 : ∀ w ∈ ([Cond.methodLink RX5 3 Lib.objectInit, Cond.methodLink RX8 3 Lib.objectInit, Cond.methodLink RX10 1 Lib.objectInit, Cond.classLink RX10 7 RX9, Cond.instantiable RX9 9, Cond.methodLink RX10 9 yX9_init, Cond.code yX9_init cX9_init 1 none, Cond.instanceMethod yX9_init, Cond.fieldLink RX10 16 "DownhillSong" "images" "[LDownhillSong$Told;", Cond.classLink RX10 20 RX4, Cond.instantiable RX4 15, Cond.methodLink RX10 22 yX4_init, Cond.code yX4_init cX4_init 1 none, Cond.instanceMethod yX4_init, Cond.classLink RX10 27 RX3, Cond.instantiable RX3 10, Cond.methodLink RX10 29 yX3_init, Cond.code yX3_init cX3_init 1 none, Cond.instanceMethod yX3_init, Cond.classLink RX10 34 RX7, Cond.instantiable RX7 8, Cond.methodLink RX10 36 yX7_init, Cond.code yX7_init cX7_init 1 none, Cond.instanceMethod yX7_init, Cond.classLink RX10 41 RX5, Cond.instantiable RX5 3, Cond.methodLink RX10 43 yX5_init, Cond.code yX5_init cX5_init 1 none, Cond.instanceMethod yX5_init, Cond.classLink RX10 48 RX8, Cond.instantiable RX8 2, Cond.methodLink RX10 50 yX8_init, Cond.code yX8_init cX8_init 1 none, Cond.instanceMethod yX8_init, Cond.methodLink RX11 1 Lib.objectInit, Cond.arrayClass .boolean, Cond.arrayClass .long, Cond.code yX10_init cX10_init 1 none, Cond.instanceMethod yX10_init, Cond.code yX11_init cX11_init 1 none] : List Cond), w ∈ zb := uw_of [530, 546, 171, 174, 175, 176, 178, 177, 555, 386, 387, 388, 390, 389, 452, 453, 454, 456, 455, 490, 491, 492, 494, 493, 525, 526, 527, 529, 528, 541, 542, 543, 545, 544, 1333, 1491, 1492, 170, 169, 1332] (by decide +kernel) (by decide +kernel)
theorem km_5_3 : Cond.methodLink RX5 3 Lib.objectInit ∈ zb := bw09_948_kw_1 _ (.head _)
theorem km_8_3 : Cond.methodLink RX8 3 Lib.objectInit ∈ zb := bw09_948_kw_1 _ (.tail _ (.head _))
theorem km_10_1 : Cond.methodLink RX10 1 Lib.objectInit ∈ zb := bw09_948_kw_1 _ (.tail _ (.tail _ (.head _)))
theorem kcl_10_7 : Cond.classLink RX10 7 RX9 ∈ zb := bw09_948_kw_1 _ (.tail _ (.tail _ (.tail _ (.head _))))
theorem kins_9 : Cond.instantiable RX9 9 ∈ zb := bw09_948_kw_1 _ (.tail _ (.tail _ (.tail _ (.tail _ (.head _)))))
theorem km_10_9 : Cond.methodLink RX10 9 yX9_init ∈ zb := bw09_948_kw_1 _ (.tail _ (.tail _ (.tail _ (.tail _ (.tail _ (.head _))))))
theorem kcode_X9_init : Cond.code yX9_init cX9_init 1 none ∈ zb := bw09_948_kw_1 _ (.tail _ (.tail _ (.tail _ (.tail _ (.tail _ (.tail _ (.head _)))))))
theorem kin_X9_init : Cond.instanceMethod yX9_init ∈ zb := bw09_948_kw_1 _ (.tail _ (.tail _ (.tail _ (.tail _ (.tail _ (.tail _ (.tail _ (.head _))))))))
theorem kf_10_16 : Cond.fieldLink RX10 16 "DownhillSong" "images" "[LDownhillSong$Told;" ∈ zb := bw09_948_kw_1 _ (.tail _ (.tail _ (.tail _ (.tail _ (.tail _ (.tail _ (.tail _ (.tail _ (.head _)))))))))
theorem kcl_10_20 : Cond.classLink RX10 20 RX4 ∈ zb := bw09_948_kw_1 _ (.tail _ (.tail _ (.tail _ (.tail _ (.tail _ (.tail _ (.tail _ (.tail _ (.tail _ (.head _))))))))))
theorem kins_4 : Cond.instantiable RX4 15 ∈ zb := bw09_948_kw_1 _ (.tail _ (.tail _ (.tail _ (.tail _ (.tail _ (.tail _ (.tail _ (.tail _ (.tail _ (.tail _ (.head _)))))))))))
theorem km_10_22 : Cond.methodLink RX10 22 yX4_init ∈ zb := bw09_948_kw_1 _ (.tail _ (.tail _ (.tail _ (.tail _ (.tail _ (.tail _ (.tail _ (.tail _ (.tail _ (.tail _ (.tail _ (.head _))))))))))))
theorem kcode_X4_init : Cond.code yX4_init cX4_init 1 none ∈ zb := bw09_948_kw_1 _ (.tail _ (.tail _ (.tail _ (.tail _ (.tail _ (.tail _ (.tail _ (.tail _ (.tail _ (.tail _ (.tail _ (.tail _ (.head _)))))))))))))
theorem kin_X4_init : Cond.instanceMethod yX4_init ∈ zb := bw09_948_kw_1 _ (.tail _ (.tail _ (.tail _ (.tail _ (.tail _ (.tail _ (.tail _ (.tail _ (.tail _ (.tail _ (.tail _ (.tail _ (.tail _ (.head _))))))))))))))
theorem kcl_10_27 : Cond.classLink RX10 27 RX3 ∈ zb := bw09_948_kw_1 _ (.tail _ (.tail _ (.tail _ (.tail _ (.tail _ (.tail _ (.tail _ (.tail _ (.tail _ (.tail _ (.tail _ (.tail _ (.tail _ (.tail _ (.head _)))))))))))))))
theorem kins_3 : Cond.instantiable RX3 10 ∈ zb := bw09_948_kw_1 _ (.tail _ (.tail _ (.tail _ (.tail _ (.tail _ (.tail _ (.tail _ (.tail _ (.tail _ (.tail _ (.tail _ (.tail _ (.tail _ (.tail _ (.tail _ (.head _))))))))))))))))
theorem km_10_29 : Cond.methodLink RX10 29 yX3_init ∈ zb := bw09_948_kw_1 _ (.tail _ (.tail _ (.tail _ (.tail _ (.tail _ (.tail _ (.tail _ (.tail _ (.tail _ (.tail _ (.tail _ (.tail _ (.tail _ (.tail _ (.tail _ (.tail _ (.head _)))))))))))))))))
theorem kcode_X3_init : Cond.code yX3_init cX3_init 1 none ∈ zb := bw09_948_kw_1 _ (.tail _ (.tail _ (.tail _ (.tail _ (.tail _ (.tail _ (.tail _ (.tail _ (.tail _ (.tail _ (.tail _ (.tail _ (.tail _ (.tail _ (.tail _ (.tail _ (.tail _ (.head _))))))))))))))))))
theorem kin_X3_init : Cond.instanceMethod yX3_init ∈ zb := bw09_948_kw_1 _ (.tail _ (.tail _ (.tail _ (.tail _ (.tail _ (.tail _ (.tail _ (.tail _ (.tail _ (.tail _ (.tail _ (.tail _ (.tail _ (.tail _ (.tail _ (.tail _ (.tail _ (.tail _ (.head _)))))))))))))))))))
theorem kcl_10_34 : Cond.classLink RX10 34 RX7 ∈ zb := bw09_948_kw_1 _ (.tail _ (.tail _ (.tail _ (.tail _ (.tail _ (.tail _ (.tail _ (.tail _ (.tail _ (.tail _ (.tail _ (.tail _ (.tail _ (.tail _ (.tail _ (.tail _ (.tail _ (.tail _ (.tail _ (.head _))))))))))))))))))))
theorem kins_7 : Cond.instantiable RX7 8 ∈ zb := bw09_948_kw_1 _ (.tail _ (.tail _ (.tail _ (.tail _ (.tail _ (.tail _ (.tail _ (.tail _ (.tail _ (.tail _ (.tail _ (.tail _ (.tail _ (.tail _ (.tail _ (.tail _ (.tail _ (.tail _ (.tail _ (.tail _ (.head _)))))))))))))))))))))
theorem km_10_36 : Cond.methodLink RX10 36 yX7_init ∈ zb := bw09_948_kw_1 _ (.tail _ (.tail _ (.tail _ (.tail _ (.tail _ (.tail _ (.tail _ (.tail _ (.tail _ (.tail _ (.tail _ (.tail _ (.tail _ (.tail _ (.tail _ (.tail _ (.tail _ (.tail _ (.tail _ (.tail _ (.tail _ (.head _))))))))))))))))))))))
theorem kcode_X7_init : Cond.code yX7_init cX7_init 1 none ∈ zb := bw09_948_kw_1 _ (.tail _ (.tail _ (.tail _ (.tail _ (.tail _ (.tail _ (.tail _ (.tail _ (.tail _ (.tail _ (.tail _ (.tail _ (.tail _ (.tail _ (.tail _ (.tail _ (.tail _ (.tail _ (.tail _ (.tail _ (.tail _ (.tail _ (.head _)))))))))))))))))))))))
theorem kin_X7_init : Cond.instanceMethod yX7_init ∈ zb := bw09_948_kw_1 _ (.tail _ (.tail _ (.tail _ (.tail _ (.tail _ (.tail _ (.tail _ (.tail _ (.tail _ (.tail _ (.tail _ (.tail _ (.tail _ (.tail _ (.tail _ (.tail _ (.tail _ (.tail _ (.tail _ (.tail _ (.tail _ (.tail _ (.tail _ (.head _))))))))))))))))))))))))
theorem kcl_10_41 : Cond.classLink RX10 41 RX5 ∈ zb := bw09_948_kw_1 _ (.tail _ (.tail _ (.tail _ (.tail _ (.tail _ (.tail _ (.tail _ (.tail _ (.tail _ (.tail _ (.tail _ (.tail _ (.tail _ (.tail _ (.tail _ (.tail _ (.tail _ (.tail _ (.tail _ (.tail _ (.tail _ (.tail _ (.tail _ (.tail _ (.head _)))))))))))))))))))))))))
theorem kins_5 : Cond.instantiable RX5 3 ∈ zb := bw09_948_kw_1 _ (.tail _ (.tail _ (.tail _ (.tail _ (.tail _ (.tail _ (.tail _ (.tail _ (.tail _ (.tail _ (.tail _ (.tail _ (.tail _ (.tail _ (.tail _ (.tail _ (.tail _ (.tail _ (.tail _ (.tail _ (.tail _ (.tail _ (.tail _ (.tail _ (.tail _ (.head _))))))))))))))))))))))))))
theorem km_10_43 : Cond.methodLink RX10 43 yX5_init ∈ zb := bw09_948_kw_1 _ (.tail _ (.tail _ (.tail _ (.tail _ (.tail _ (.tail _ (.tail _ (.tail _ (.tail _ (.tail _ (.tail _ (.tail _ (.tail _ (.tail _ (.tail _ (.tail _ (.tail _ (.tail _ (.tail _ (.tail _ (.tail _ (.tail _ (.tail _ (.tail _ (.tail _ (.tail _ (.head _)))))))))))))))))))))))))))
theorem kcode_X5_init : Cond.code yX5_init cX5_init 1 none ∈ zb := bw09_948_kw_1 _ (.tail _ (.tail _ (.tail _ (.tail _ (.tail _ (.tail _ (.tail _ (.tail _ (.tail _ (.tail _ (.tail _ (.tail _ (.tail _ (.tail _ (.tail _ (.tail _ (.tail _ (.tail _ (.tail _ (.tail _ (.tail _ (.tail _ (.tail _ (.tail _ (.tail _ (.tail _ (.tail _ (.head _))))))))))))))))))))))))))))
theorem kin_X5_init : Cond.instanceMethod yX5_init ∈ zb := bw09_948_kw_1 _ (.tail _ (.tail _ (.tail _ (.tail _ (.tail _ (.tail _ (.tail _ (.tail _ (.tail _ (.tail _ (.tail _ (.tail _ (.tail _ (.tail _ (.tail _ (.tail _ (.tail _ (.tail _ (.tail _ (.tail _ (.tail _ (.tail _ (.tail _ (.tail _ (.tail _ (.tail _ (.tail _ (.tail _ (.head _)))))))))))))))))))))))))))))
theorem kcl_10_48 : Cond.classLink RX10 48 RX8 ∈ zb := bw09_948_kw_1 _ (.tail _ (.tail _ (.tail _ (.tail _ (.tail _ (.tail _ (.tail _ (.tail _ (.tail _ (.tail _ (.tail _ (.tail _ (.tail _ (.tail _ (.tail _ (.tail _ (.tail _ (.tail _ (.tail _ (.tail _ (.tail _ (.tail _ (.tail _ (.tail _ (.tail _ (.tail _ (.tail _ (.tail _ (.tail _ (.head _))))))))))))))))))))))))))))))
theorem kins_8 : Cond.instantiable RX8 2 ∈ zb := bw09_948_kw_1 _ (.tail _ (.tail _ (.tail _ (.tail _ (.tail _ (.tail _ (.tail _ (.tail _ (.tail _ (.tail _ (.tail _ (.tail _ (.tail _ (.tail _ (.tail _ (.tail _ (.tail _ (.tail _ (.tail _ (.tail _ (.tail _ (.tail _ (.tail _ (.tail _ (.tail _ (.tail _ (.tail _ (.tail _ (.tail _ (.tail _ (.head _)))))))))))))))))))))))))))))))
theorem km_10_50 : Cond.methodLink RX10 50 yX8_init ∈ zb := bw09_948_kw_1 _ (.tail _ (.tail _ (.tail _ (.tail _ (.tail _ (.tail _ (.tail _ (.tail _ (.tail _ (.tail _ (.tail _ (.tail _ (.tail _ (.tail _ (.tail _ (.tail _ (.tail _ (.tail _ (.tail _ (.tail _ (.tail _ (.tail _ (.tail _ (.tail _ (.tail _ (.tail _ (.tail _ (.tail _ (.tail _ (.tail _ (.tail _ (.head _))))))))))))))))))))))))))))))))
theorem kcode_X8_init : Cond.code yX8_init cX8_init 1 none ∈ zb := bw09_948_kw_1 _ (.tail _ (.tail _ (.tail _ (.tail _ (.tail _ (.tail _ (.tail _ (.tail _ (.tail _ (.tail _ (.tail _ (.tail _ (.tail _ (.tail _ (.tail _ (.tail _ (.tail _ (.tail _ (.tail _ (.tail _ (.tail _ (.tail _ (.tail _ (.tail _ (.tail _ (.tail _ (.tail _ (.tail _ (.tail _ (.tail _ (.tail _ (.tail _ (.head _)))))))))))))))))))))))))))))))))
theorem kin_X8_init : Cond.instanceMethod yX8_init ∈ zb := bw09_948_kw_1 _ (.tail _ (.tail _ (.tail _ (.tail _ (.tail _ (.tail _ (.tail _ (.tail _ (.tail _ (.tail _ (.tail _ (.tail _ (.tail _ (.tail _ (.tail _ (.tail _ (.tail _ (.tail _ (.tail _ (.tail _ (.tail _ (.tail _ (.tail _ (.tail _ (.tail _ (.tail _ (.tail _ (.tail _ (.tail _ (.tail _ (.tail _ (.tail _ (.tail _ (.head _))))))))))))))))))))))))))))))))))
theorem km_11_1 : Cond.methodLink RX11 1 Lib.objectInit ∈ zb := bw09_948_kw_1 _ (.tail _ (.tail _ (.tail _ (.tail _ (.tail _ (.tail _ (.tail _ (.tail _ (.tail _ (.tail _ (.tail _ (.tail _ (.tail _ (.tail _ (.tail _ (.tail _ (.tail _ (.tail _ (.tail _ (.tail _ (.tail _ (.tail _ (.tail _ (.tail _ (.tail _ (.tail _ (.tail _ (.tail _ (.tail _ (.tail _ (.tail _ (.tail _ (.tail _ (.tail _ (.head _)))))))))))))))))))))))))))))))))))
theorem kac_Z : Cond.arrayClass .boolean ∈ zb := bw09_948_kw_1 _ (.tail _ (.tail _ (.tail _ (.tail _ (.tail _ (.tail _ (.tail _ (.tail _ (.tail _ (.tail _ (.tail _ (.tail _ (.tail _ (.tail _ (.tail _ (.tail _ (.tail _ (.tail _ (.tail _ (.tail _ (.tail _ (.tail _ (.tail _ (.tail _ (.tail _ (.tail _ (.tail _ (.tail _ (.tail _ (.tail _ (.tail _ (.tail _ (.tail _ (.tail _ (.tail _ (.head _))))))))))))))))))))))))))))))))))))
theorem kac_J : Cond.arrayClass .long ∈ zb := bw09_948_kw_1 _ (.tail _ (.tail _ (.tail _ (.tail _ (.tail _ (.tail _ (.tail _ (.tail _ (.tail _ (.tail _ (.tail _ (.tail _ (.tail _ (.tail _ (.tail _ (.tail _ (.tail _ (.tail _ (.tail _ (.tail _ (.tail _ (.tail _ (.tail _ (.tail _ (.tail _ (.tail _ (.tail _ (.tail _ (.tail _ (.tail _ (.tail _ (.tail _ (.tail _ (.tail _ (.tail _ (.tail _ (.head _)))))))))))))))))))))))))))))))))))))
theorem kcode_X10_init : Cond.code yX10_init cX10_init 1 none ∈ zb := bw09_948_kw_1 _ (.tail _ (.tail _ (.tail _ (.tail _ (.tail _ (.tail _ (.tail _ (.tail _ (.tail _ (.tail _ (.tail _ (.tail _ (.tail _ (.tail _ (.tail _ (.tail _ (.tail _ (.tail _ (.tail _ (.tail _ (.tail _ (.tail _ (.tail _ (.tail _ (.tail _ (.tail _ (.tail _ (.tail _ (.tail _ (.tail _ (.tail _ (.tail _ (.tail _ (.tail _ (.tail _ (.tail _ (.tail _ (.head _))))))))))))))))))))))))))))))))))))))
theorem kin_X10_init : Cond.instanceMethod yX10_init ∈ zb := bw09_948_kw_1 _ (.tail _ (.tail _ (.tail _ (.tail _ (.tail _ (.tail _ (.tail _ (.tail _ (.tail _ (.tail _ (.tail _ (.tail _ (.tail _ (.tail _ (.tail _ (.tail _ (.tail _ (.tail _ (.tail _ (.tail _ (.tail _ (.tail _ (.tail _ (.tail _ (.tail _ (.tail _ (.tail _ (.tail _ (.tail _ (.tail _ (.tail _ (.tail _ (.tail _ (.tail _ (.tail _ (.tail _ (.tail _ (.tail _ (.head _)))))))))))))))))))))))))))))))))))))))
theorem kcode_X11_init : Cond.code yX11_init cX11_init 1 none ∈ zb := bw09_948_kw_1 _ (.tail _ (.tail _ (.tail _ (.tail _ (.tail _ (.tail _ (.tail _ (.tail _ (.tail _ (.tail _ (.tail _ (.tail _ (.tail _ (.tail _ (.tail _ (.tail _ (.tail _ (.tail _ (.tail _ (.tail _ (.tail _ (.tail _ (.tail _ (.tail _ (.tail _ (.tail _ (.tail _ (.tail _ (.tail _ (.tail _ (.tail _ (.tail _ (.tail _ (.tail _ (.tail _ (.tail _ (.tail _ (.tail _ (.tail _ (.head _))))))))))))))))))))))))))))))))))))))))
theorem bw09_948_kw_2 : ∀ w ∈ ([Cond.instanceMethod yX11_init] : List Cond), w ∈ zb := uw_of [1331] (by decide +kernel) (by decide +kernel)
theorem kin_X11_init : Cond.instanceMethod yX11_init ∈ zb := bw09_948_kw_2 _ (.head _)
theorem ky_X2_init : zY RX2 yX2_init (Cond.code yX2_init cX2_init 1 none) 0 := ⟨rfl, kinit_2, kcode_X2_init, by decide +kernel⟩
theorem kz_X2_init : Cond.instanceMethod yX2_init ∈ zb := kin_X2_init
theorem ky_X1_init : zY RX1 yX1_init (Cond.code yX1_init cX1_init 1 none) 0 := ⟨rfl, kinit_1, kcode_X1_init, by decide +kernel⟩
theorem kz_X1_init : Cond.instanceMethod yX1_init ∈ zb := kin_X1_init
theorem ky_X6_init : zY RX6 yX6_init (Cond.code yX6_init cX6_init 1 none) 0 := ⟨rfl, kinit_6, kcode_X6_init, by decide +kernel⟩
theorem kz_X6_init : Cond.instanceMethod yX6_init ∈ zb := kin_X6_init
theorem ky_X0_init : zY RX0 yX0_init (Cond.code yX0_init cX0_init 1 none) 0 := ⟨rfl, kinit_0, kcode_X0_init, by decide +kernel⟩
theorem kz_X0_init : Cond.instanceMethod yX0_init ∈ zb := kin_X0_init
theorem ky_X9_init : zY RX9 yX9_init (Cond.code yX9_init cX9_init 1 none) 0 := ⟨rfl, kinit_9, kcode_X9_init, by decide +kernel⟩
theorem kz_X9_init : Cond.instanceMethod yX9_init ∈ zb := kin_X9_init
theorem ky_X4_init : zY RX4 yX4_init (Cond.code yX4_init cX4_init 1 none) 0 := ⟨rfl, kinit_4, kcode_X4_init, by decide +kernel⟩
theorem kz_X4_init : Cond.instanceMethod yX4_init ∈ zb := kin_X4_init
theorem ky_X3_init : zY RX3 yX3_init (Cond.code yX3_init cX3_init 1 none) 0 := ⟨rfl, kinit_3, kcode_X3_init, by decide +kernel⟩
theorem kz_X3_init : Cond.instanceMethod yX3_init ∈ zb := kin_X3_init
theorem ky_X7_init : zY RX7 yX7_init (Cond.code yX7_init cX7_init 1 none) 0 := ⟨rfl, kinit_7, kcode_X7_init, by decide +kernel⟩
theorem kz_X7_init : Cond.instanceMethod yX7_init ∈ zb := kin_X7_init
theorem ky_X5_init : zY RX5 yX5_init (Cond.code yX5_init cX5_init 1 none) 0 := ⟨rfl, kinit_5, kcode_X5_init, by decide +kernel⟩
theorem kz_X5_init : Cond.instanceMethod yX5_init ∈ zb := kin_X5_init
theorem ky_X8_init : zY RX8 yX8_init (Cond.code yX8_init cX8_init 1 none) 0 := ⟨rfl, kinit_8, kcode_X8_init, by decide +kernel⟩
theorem kz_X8_init : Cond.instanceMethod yX8_init ∈ zb := kin_X8_init
theorem ky_X10_init : zY RX10 yX10_init (Cond.code yX10_init cX10_init 1 none) 0 := ⟨rfl, kinit_10, kcode_X10_init, by decide +kernel⟩
theorem kz_X10_init : Cond.instanceMethod yX10_init ∈ zb := kin_X10_init
theorem ky_X11_init : zY RX11 yX11_init (Cond.code yX11_init cX11_init 1 none) 0 := ⟨rfl, kinit_11, kcode_X11_init, by decide +kernel⟩
theorem kz_X11_init : Cond.instanceMethod yX11_init ∈ zb := kin_X11_init
/-- cells at neighbouring addresses from a on, all of them free -/
theorem zDa {ws : va_W} {a n : Nat} (h : ws.map Prod.fst = (List.range n).map (fun k => a + k)) : va_D (fun q => a ≤ q) ws := (zD_of h).weaken (fun _ _ _ h => h.1)
def zover : List String := [RX2, RX1, RX6, RX0, RX9]
def zO (s : State) : Prop := ∀ C ∈ zover, va_AO C s
theorem zO_moved {s U : State} (hW : s.WarmedH U.vm) (h : zO s) : zO U := fun C hC => va_AO.moved hW.alike (h C hC)
theorem zO_calling {U : State} {gg : JFrame} {mk : MethodId} {a : Array Value} (h : zO U) : zO (U.calling gg mk a) := fun C hC => va_AO.moved (u := U) (U := U.calling gg mk a) (Vm.Alike.refl U.vm) (h C hC)
theorem zarr_q {cA : ClassId} {n : Nat} {f g : Nat → Option Nat} (h : ∀ j, j < n → f j = g j) : vp_cell cA (n, .inr (.inr (.inr (.inr f)))) = vp_cell cA (n, .inr (.inr (.inr (.inr g)))) := by
  rw [vp_cell_q, vp_cell_q]
  unfold arrV
  congr 1
  apply Array.ext (by simp)
  intro i h1 h2
  simp at h1
  simp [h i h1]
theorem zset {D : va_G} {cl : List vw_C} {ws : va_W} {H : Heap} (hP : va_P D cl ws H) (k : Nat) {x y : Nat × va_E} (hx : ws[k]? = some x) (hy : va_at D cl y H) : va_P D cl (ws.set k y) H := by
  intro j q hq
  by_cases hj : k = j
  · subst hj
    have hlt : k < ws.length := (List.getElem?_eq_some_iff.mp hx).1
    rw [List.getElem?_set_self hlt] at hq
    cases hq
    exact hy
  · rw [List.getElem?_set_ne hj] at hq
    exact hP j q hq
theorem zkeepA {D : va_G} {cl : List vw_C} {wr : va_W} {H H1 : Heap} {A1 : Nat → Prop} {a n : Nat} (hP : va_P D cl wr H) (hk : ∀ q : Nat, q < H.size → ¬ A1 q → H1[q]? = H[q]?) (h : wr.map Prod.fst = (List.range n).map (fun k => a + k)) (hA : ∀ q, A1 q → a + n ≤ q) : va_P D cl wr H1 := by
  refine zkeep hP hk _ h ?_
  intro q hq h1
  obtain ⟨k, hk1, rfl⟩ := List.mem_map.mp hq
  have := hA _ h1
  have := List.mem_range.mp hk1
  omega
/-- the addresses of a segment -/
def zRg (ws : va_W) (lo hi : Nat) : Prop := ∀ x ∈ ws.map Prod.fst, lo ≤ x ∧ x < hi
theorem zRg_1 {q : Nat} {e : va_E} : zRg [(q, e)] q (q + 1) := by intro x hx; simp at hx; omega
theorem zRg_of {ws : va_W} {a n : Nat} (h : ws.map Prod.fst = (List.range n).map (fun k => a + k)) : zRg ws a (a + n) := by
  intro x hx
  rw [h] at hx
  obtain ⟨k, hk, rfl⟩ := List.mem_map.mp hx
  have := List.mem_range.mp hk
  exact ⟨by omega, by omega⟩
theorem zRg.mono {ws : va_W} {lo hi lo2 hi2 : Nat} (h : zRg ws lo hi) (h1 : lo2 ≤ lo) (h2 : hi ≤ hi2) : zRg ws lo2 hi2 := fun x hx => ⟨Nat.le_trans h1 (h x hx).1, Nat.lt_of_lt_of_le (h x hx).2 h2⟩
theorem zRg.app {ws wt : va_W} {lo hi : Nat} (h : zRg ws lo hi) (h1 : zRg wt lo hi) : zRg (ws ++ wt) lo hi := fun x hx => by
  rw [List.map_append] at hx
  exact (List.mem_append.mp hx).elim (h x) (h1 x)
theorem zP1 {D : va_G} {cl : List vw_C} {c : Nat × va_E} {H : Heap} (h : va_at D cl c H) : va_P D cl [c] H := fun k q hq => by
  have h1 := (List.getElem?_eq_some_iff.mp hq).1
  simp at h1
  subst h1
  cases hq
  exact h
theorem zge_n {a q i j : Nat} (h : q < a + i) (hij : i ≤ j) : ¬ (a + j ≤ q) := by omega
theorem znA {a q i p : Nat} (h : a + i ≤ q) (hp : p < i) : q ≠ a + p := by omega
theorem znB {a q i p : Nat} (h : q < a + i) (hp : i ≤ p) : q ≠ a + p := by omega
theorem zkp {D : va_G} {cl : List vw_C} {ws : va_W} {H H1 : Heap} {lo hi : Nat} (hP : va_P D cl ws H) (hr : zRg ws lo hi) (hk : ∀ q : Nat, q < H.size → lo ≤ q → q < hi → H1[q]? = H[q]?) : va_P D cl ws H1 := by
  intro k q hq
  have h1 := hr q.1 (List.mem_map_of_mem (List.mem_of_getElem? hq))
  exact (hP k q hq).kept (hk q.1 (hP k q hq).lt h1.1 h1.2)
theorem zD1 {q a : Nat} {e : va_E} (h : a ≤ q) : va_D (fun x => a ≤ x) [(q, e)] := ⟨fun i j x y hx hy _ => by
  have h1 := (List.getElem?_eq_some_iff.mp hx).1; have h2 := (List.getElem?_eq_some_iff.mp hy).1; simp at h1 h2; omega, fun k x hx => by
  have h1 := (List.getElem?_eq_some_iff.mp hx).1; simp at h1; subst h1; cases hx; exact h⟩
/-- what a constructor begins with: a blank object, the last cell -/
def zI (E : zE) (a ci : Nat) (fs : List Value) (U : State) : Prop := U.heap.size = a + 1 ∧ va_P E.1 zcl [(a, .inr (ci, fs))] U.heap ∧ zK E U ∧ zO U
theorem zI_blind {E : zE} {a ci : Nat} {fs : List Value} : FrameBlind (va_Pc [.ref a] (zI E a ci fs)) := fun _ _ _ _ h => ⟨h.1, h.2.1, h.2.2.1, zK_calling h.2.2.2.1, zO_calling h.2.2.2.2⟩
/-- what it ends with: the block, and how many cells there are -/
def zJ (E : zE) (a n : Nat) (ws : va_W) (_ : Unit) (H : Heap) : Prop := va_P E.1 zcl ws H ∧ H.size = a + n
section ZN
variable {p : Program} {l : Launch} {e : Env} {R : Room} {s : State} {m : MethodId} {args : Array Value} {below : List Frame} {meth : Method} {c : Code} {H : Heap} {locs : List Loc} {cells slots : Nat} {Q : State → Prop} {cc : ByteArray} {pc nL : Nat} {ls : Array Slot} {rest : List Value} {own : String} {ret : Option FieldType} {E : zE} {ws : va_W} {A : Nat → Prop} {h : Nat}
theorem zNew {C : String} {T : u_T} {N ci idx : Nat} (zc : zC p s m args meth c cc nL own ret) (hK : zK E s) (hP : va_P E.1 zcl ws H) (hS : va_S A s.heap H locs) (hsz : H.size = h) (hin : ∀ w ∈ u_ws C T N, w ∈ zb) (ty : Nat → FieldType) (hty : ∀ k, k < N → parseFieldDescriptor (T k).2.2.1 = some (ty k)) (hcl : Cond.classLink own idx C ∈ zb) (hinst : Cond.instantiable C N ∈ zb) (hini : Cond.initialized C ∈ zb) (hc : zcl[ci]? = some (C, T, N)) (fs : List Value) (hfs : ∀ j, j < N → defaultValue (ty j) = vp_V fs j) (hcells : cells + 1 ≤ R.cells) (hslots : slots + N ≤ R.slots) (hdg : decode cc pc = .ok (.new idx, 3))
    (kk : ∀ H1 : Heap, va_P E.1 zcl (ws ++ [(h, .inr (ci, fs))]) H1 → (∀ q : Nat, q < h → H1[q]? = H[q]?) → H1.size = h + 1 → va_S A s.heap H1 locs → W p l e R s m args below meth c H1 locs (cells + 1) (slots + N) Q (F0 m (pc + 3) ls (.ref h :: rest))) : W p l e R s m args below meth c H locs cells slots Q (F0 m pc ls rest) := by
  obtain ⟨hx, hb, hml, hown, hz, hr, hlk⟩ := zc
  have hKn := hK.1.1 ci _ hc
  refine W.newcK hx hb hown (hz _ hcl) (hz _ hinst) (hz _ hini) rfl hdg hcells hslots hKn.2.1 hsz fun H1 kC hkC e1 z1 o1 => ?_
  subst hsz
  have hk : ∀ (k : Nat) (x : Nat × va_E), ws[k]? = some x → H1[x.1]? = H[x.1]? := fun k x hx => o1 x.1 ((hP k x hx).lt)
  refine kk H1 ((hP.kept hk).app (fun k x hx => ?_)) o1 z1 ⟨Nat.le_trans hS.1 (by omega), fun x h1 h2 => (o1 x (Nat.lt_of_lt_of_le h1 hS.1)).trans (hS.2.1 x h1 h2), hS.2.2⟩
  have hz1 : k < 1 := (List.getElem?_eq_some_iff.mp hx).1
  rw [show k = 0 by omega] at hx
  cases hx
  exact ⟨_, hc, (u_born ty hz hin hKn hkC e1 hty).to hfs⟩
theorem zNewa {atype : ArrayType} {t N : Nat} {n : Int32} {a0 : vp_A} (zc : zC p s m args meth c cc nL own ret) (hK : zK E s) (hP : va_P E.1 zcl ws H) (hS : va_S A s.heap H locs) (hsz : H.size = h) (harr : Cond.arrayClass (newarray.typeOf atype) ∈ zb) (ht : (zty E)[t]? = some (E.2 t, newarray.typeOf atype)) (ha : ∀ cA : ClassId, vp_cell cA a0 = arrV cA N (fun _ => defaultValue (newarray.typeOf atype))) (hn : ¬ n < 0) (hN : n.toNatClampNeg = N) (hbytes : N * componentBytes (newarray.typeOf atype) ≤ 536870912) (hcells : cells + 1 ≤ R.cells) (hslots : slots + N ≤ R.slots) (hdg : decode cc pc = .ok (.newarray atype, 2))
    (kk : ∀ H1 : Heap, va_P E.1 zcl (ws ++ [(h, .inl (E.2 t, a0))]) H1 → (∀ q : Nat, q < h → H1[q]? = H[q]?) → H1.size = h + 1 → va_S A s.heap H1 locs → W p l e R s m args below meth c H1 locs (cells + 1) (slots + N) Q (F0 m (pc + 2) ls (.ref h :: rest))) : W p l e R s m args below meth c H locs cells slots Q (F0 m pc ls (.int n :: rest)) := by
  obtain ⟨hx, hb, hml, hown, hz, hr, hlk⟩ := zc
  refine va_newaK hx hb (hz _ harr) rfl hdg rfl hn hN hbytes hcells hslots hsz fun H1 cA e1 z1 o1 hAr hNm => ?_
  have h2 := (hK.1.2 t _ ht).2
  have hcA : cA = E.2 t := Option.some.inj (hNm.symm.trans (by cases atype <;> exact h2))
  subst hcA
  subst hsz
  have hk : ∀ (k : Nat) (x : Nat × va_E), ws[k]? = some x → H1[x.1]? = H[x.1]? := fun k x hx => o1 x.1 ((hP k x hx).lt)
  refine kk H1 ((hP.kept hk).app (fun k x hx => ?_)) o1 z1 ⟨Nat.le_trans hS.1 (by omega), fun x h1 h2 => (o1 x (Nat.lt_of_lt_of_le h1 hS.1)).trans (hS.2.1 x h1 h2), hS.2.2⟩
  have hz1 : k < 1 := (List.getElem?_eq_some_iff.mp hx).1
  rw [show k = 0 by omega] at hx
  cases hx
  show H1[H.size]? = some (vp_cell _ _)
  rw [ha]
  exact e1
theorem zNewq {C : String} {idx t N : Nat} {n : Int32} (zc : zC p s m args meth c cc nL own ret) (hK : zK E s) (hO : va_AO C s) (hP : va_P E.1 zcl ws H) (hS : va_S A s.heap H locs) (hsz : H.size = h) (hcl : Cond.classLink own idx C ∈ zb) (ht : (zty E)[t]? = some (E.2 t, .object C)) (hn : ¬ n < 0) (hN : n.toNatClampNeg = N) (hbytes : N * 4 ≤ 536870912) (hcells : cells + 1 ≤ R.cells) (hslots : slots + N ≤ R.slots) (hdg : decode cc pc = .ok (.anewarray idx, 3))
    (kk : ∀ H1 : Heap, va_P E.1 zcl (ws ++ [(h, .inl (E.2 t, N, .inr (.inr (.inr (.inr (fun _ => none))))))]) H1 → (∀ q : Nat, q < h → H1[q]? = H[q]?) → H1.size = h + 1 → va_S A s.heap H1 locs → W p l e R s m args below meth c H1 locs (cells + 1) (slots + N) Q (F0 m (pc + 3) ls (.ref h :: rest))) : W p l e R s m args below meth c H locs cells slots Q (F0 m pc ls (.int n :: rest)) := by
  obtain ⟨hx, hb, hml, hown, hz, hr, hlk⟩ := zc
  subst hN
  refine W.anew hx hb hown (hz _ hcl) (va_AO.use hO) rfl hdg rfl hn hbytes hcells hslots fun cA kA comp f1 f2 f3 f4 => ?_
  obtain ⟨kA2, comp2, -, -, -, k4⟩ := (hK.1.2 t _ ht).2
  have hcA : cA = E.2 t := Option.some.inj (f1.symm.trans k4)
  subst hcA
  subst hsz
  generalize hH1 : H.push ({ cls := E.2 t, slots := Array.replicate n.toNatClampNeg .null, vm := .none } : Cell) = H1
  have z1 : H1.size = H.size + 1 := by rw [← hH1, Array.size_push]
  have e1 : H1[H.size]? = some (arrV (E.2 t) n.toNatClampNeg (fun _ => .null)) := by rw [← hH1, Array.getElem?_push_size, ← arrV_new]
  have o1 : ∀ q : Nat, q < H.size → H1[q]? = H[q]? := fun q hq => by rw [← hH1, Array.getElem?_push, if_neg (Nat.ne_of_lt hq)]
  have hk : ∀ (k : Nat) (x : Nat × va_E), ws[k]? = some x → H1[x.1]? = H[x.1]? := fun k x hx => o1 x.1 ((hP k x hx).lt)
  refine kk H1 ((hP.kept hk).app (fun k x hx => ?_)) o1 z1 ⟨Nat.le_trans hS.1 (by omega), fun x h1 h2 => (o1 x (Nat.lt_of_lt_of_le h1 hS.1)).trans (hS.2.1 x h1 h2), hS.2.2⟩
  have hz1 : k < 1 := (List.getElem?_eq_some_iff.mp hx).1
  rw [show k = 0 by omega] at hx
  cases hx
  show H1[H.size]? = some (vp_cell _ _)
  rw [vp_cell_q]
  exact e1
/-- a field of the object that is made, final or not: how many cells there are stays -/
theorem zPut {ref C : String} {T : u_T} {N ci idx a : Nat} {ty : FieldType} {v : Value} {fs : List Value} (zc : zC p s m args meth c cc nL own ret) (hK : zK E s) (hP : va_P E.1 zcl ws H) (hD : va_D A ws) (hS : va_S A s.heap H locs) (hin : ∀ w ∈ u_ws C T N, w ∈ zb) (ty0 : Nat → FieldType) (hty : ∀ k, k < N → parseFieldDescriptor (T k).2.2.1 = some (ty0 k)) (hnm : ∀ a, a < N → ∀ b, b < N → a ≠ b → (T a).2.1 ≠ (T b).2.1) (q0 : Nat) (he : ws[q0]? = some (a, .inr (ci, fs))) (hc : zcl[ci]? = some (C, T, N)) (k : Nat) (hk : k < N) (hlink : Cond.fieldLink own idx ref (T k).2.1 (T k).2.2.1 ∈ zb) (hsame : ∀ x, s.fieldFound? (T k).1 (T k).2.1 (T k).2.2.1 = some x → s.fieldFound? ref (T k).2.1 (T k).2.2.1 = some x) (hfin : (T k).2.2.2 = false ∨ ((T k).2.2.2 = true ∧ meth.name = "<init>" ∧ (T k).1 = own)) (hd : parseFieldDescriptor (T k).2.2.1 = some ty) (hn : narrow ty v = v) (hfit : fits ty v = true) (hl : k < fs.length) (hdg : decode cc pc = .ok (.putfield idx, 3))
    (kk : ∀ (H1 : Heap) (locs1 : List Loc), va_P E.1 zcl (ws.set q0 (a, .inr (ci, fs.set k v))) H1 → (∀ q : Nat, q ≠ a → H1[q]? = H[q]?) → H1.size = H.size → va_S A s.heap H1 locs1 → W p l e R s m args below meth c H1 locs1 cells slots Q (F0 m (pc + 3) ls rest)) : W p l e R s m args below meth c H locs cells slots Q (F0 m pc ls (v :: .ref a :: rest)) := by
  obtain ⟨hx, hb, hml, hown, hz, hr, hlk⟩ := zc
  have hap := va_apart (own := own) hz hin ty0 hty hnm hK.1 hc
  obtain ⟨r, h1, cell, q1, q2, q3, q4⟩ := hP q0 _ he
  have hr2 : r = (C, T, N) := Option.some.inj (h1.symm.trans hc)
  subst hr2
  obtain ⟨hS1, hfc, kC, hkC, hkind⟩ := hK.1.1 ci _ hc
  obtain ⟨cf, kf, fi, f, hi, hsl⟩ := hS1 k hk
  have hst := (u_facts hfc hkC (u_lays hz hin hk) hi).1
  have hlay := hz _ (hin _ (u_in_lay hk))
  unfold u_lay at hlay
  rcases hfin with hfin | ⟨hfin, hnm2, hdecl⟩
  · rw [if_neg (by rw [hfin]; decide)] at hlay
    have h6 := u_store hfc hkC hkind hlay hi hd hn hfit
    refine W.putK hx hb (f := f) ⟨hown, hz _ hlink, ⟨_, _, _, hsame _ hi⟩, hst⟩ (by rw [q2]; exact h6) q1 q3 (by rw [hsl]; exact k2_hasslot (q4 k hk)) rfl rfl hdg fun H' e1 e2 e3 => ?_
    rw [hsl] at e1 ⊢
    exact kk H' _ (hP.set hD he ⟨_, hc, t_OB.to (V := updV (vp_V fs) k v) ⟨_, e1, q2, q3, t_set q4 hap hk v⟩ (fun j _ => vp_updV_set hl v j)⟩ e3) e3 e2 (hS.put e2 e3 (hD.2 q0 _ he))
  · rw [if_pos hfin] at hlay
    have hcf : m.cls = cf := by
      obtain ⟨_, _, c', _, _, _, -, -, hf', -, -, -, hown2, -⟩ := Cond.laysFinal_spec hlay
      have e1 : c' = cf := by have := hi.symm.trans hf'; simp at this; exact this.1.symm
      rw [hdecl] at hown2
      rw [← e1]; exact Option.some.inj (hown.symm.trans hown2)
    have h6 := u_fits hfc hkC hkind (Or.inr hlay) hi hd hn hfit
    refine W.putFinK hx hb hown (hz _ hlink) (hsame _ hi) hst hcf hnm2 (by rw [q2]; exact h6) q1 q3 (by rw [hsl]; exact k2_hasslot (q4 k hk)) rfl rfl hdg fun H' e1 e2 e3 => ?_
    rw [hsl] at e1 ⊢
    exact kk H' _ (hP.set hD he ⟨_, hc, t_OB.to (V := updV (vp_V fs) k v) ⟨_, e1, q2, q3, t_set q4 hap hk v⟩ (fun j _ => vp_updV_set hl v j)⟩ e3) e3 e2 (hS.put e2 e3 (hD.2 q0 _ he))
theorem zIast {a n t : Nat} {f : Nat → Int32} {i x : Int32} (zc : zC p s m args meth c cc nL own ret) (hK : zK E s) (hP : va_P E.1 zcl ws H) (hD : va_D A ws) (hS : va_S A s.heap H locs) (q0 : Nat) (ha : ws[q0]? = some (a, .inl (E.2 t, n, .inl f))) (ht : (zty E)[t]? = some (E.2 t, .int)) (hin : vp_in i n) (hdg : decode cc pc = .ok (.iastore, 1))
    (kk : ∀ (H1 : Heap) (locs1 : List Loc), va_P E.1 zcl (ws.set q0 (a, .inl (E.2 t, n, .inl (upd f i.toNatClampNeg x)))) H1 → (∀ q : Nat, q ≠ a → H1[q]? = H[q]?) → H1.size = H.size → va_S A s.heap H1 locs1 → W p l e R s m args below meth c H1 locs1 cells slots Q (F0 m (pc + 1) ls rest)) : W p l e R s m args below meth c H locs cells slots Q (F0 m pc ls (.int x :: .int i :: .ref a :: rest)) := by
  obtain ⟨hx, hb, hml, hown, hz, hr, hlk⟩ := zc
  refine W.iast hx hb (hP q0 _ ha) ((hK.1.2 t _ ht).1 n (fun j => .int (f j))) (fun q => by cases q) (by show ¬ (i < 0 ∨ (arrV _ _ _).slots.size ≤ _); rw [arrV_size]; exact hin) rfl rfl hdg fun H1 e z oq => ?_
  refine kk H1 _ (hP.set hD ha ?_ oq) oq z (hS.put z oq (hD.2 q0 _ ha))
  show H1[a]? = some (vp_cell _ _)
  rw [e]
  rw [vp_cell_i, vp_cell_i, arrV_store]
  congr 2
  funext q
  by_cases hq : q = i.toNatClampNeg
  · subst hq
    simp [updV, upd]
  · simp [updV, upd, hq]
theorem zAast {a n t v ci : Nat} {r : vw_C} {vs : List Value} {f : Nat → Option Nat} {i : Int32} (zc : zC p s m args meth c cc nL own ret) (hK : zK E s) (hP : va_P E.1 zcl ws H) (hD : va_D A ws) (hS : va_S A s.heap H locs) (q0 qk : Nat) (ha : ws[q0]? = some (a, .inl (E.2 t, n, .inr (.inr (.inr (.inr f)))))) (ht : (zty E)[t]? = some (E.2 t, .object r.1)) {wv : va_W} (hPv : va_P E.1 zcl wv H) (hv : wv[qk]? = some (v, .inr (ci, vs))) (hc : zcl[ci]? = some r) (hin : vp_in i n) (hdg : decode cc pc = .ok (.aastore, 1))
    (kk : ∀ (H1 : Heap) (locs1 : List Loc), va_P E.1 zcl (ws.set q0 (a, .inl (E.2 t, n, .inr (.inr (.inr (.inr (va_up f i.toNatClampNeg (some v)))))))) H1 → (∀ q : Nat, q ≠ a → H1[q]? = H[q]?) → H1.size = H.size → va_S A s.heap H1 locs1 → W p l e R s m args below meth c H1 locs1 cells slots Q (F0 m (pc + 1) ls rest)) : W p l e R s m args below meth c H locs cells slots Q (F0 m pc ls (.ref v :: .int i :: .ref a :: rest)) := by
  obtain ⟨hx, hb, hml, hown, hz, hr, hlk⟩ := zc
  have hlt : i.toNatClampNeg < n := Nat.not_le.mp fun q => hin (Or.inr q)
  have h0 : ¬ i < 0 := fun q => hin (Or.inl q)
  obtain ⟨r', hr', cellV, g1, g2, g3, -⟩ := hPv qk _ hv
  have hcls := (hK.1.1 ci r hc).2
  obtain ⟨kA, comp, k1, k2, k3, -⟩ := (hK.1.2 t _ ht).2
  have hcomp : comp = E.1.1 ci := Option.some.inj (k3.symm.trans hcls.1)
  subst hcomp
  obtain ⟨kC, hkC, -⟩ := hcls.2
  refine W.aast hx hb (hP q0 _ ha) (fun q h => by cases h) (fun h => by cases h) k1 k2 rfl hkC ⟨h0, by show _ < (arrV _ _ _).slots.size; rw [arrV_size]; exact hlt⟩ g1 (fun q h => by rw [g3] at h; cases h) (by rw [g2]; exact hkC) (by rw [g2]; exact va_assign hcls) rfl rfl hdg fun H1 e z oq => ?_
  refine kk H1 _ (hP.set hD ha ?_ oq) oq z (hS.put z oq (hD.2 q0 _ ha))
  show H1[a]? = some (vp_cell _ _)
  rw [e]
  rw [vp_cell_q, vp_cell_q, arrV_store]
  congr 2
  funext q
  by_cases hq : q = i.toNatClampNeg
  · subst hq
    simp [updV, va_up, va_rf]
  · simp [updV, va_up, hq]
/-- a constructor's call -/
theorem zIc {S : Type} {post : S → Prop} {B : S → Heap → Prop} {A1 : Nat → Prop} {C : String} {y : MethodName} {bytes : ByteArray} {maxL idx mc ms : Nat} {rm : Room} {Pc : Array Value → State → Prop} {b : Addr} (zc : zC p s m args meth c cc nL own ret) (ky : zY C y (Cond.code y bytes maxL none) 0) (k2 : Cond.instanceMethod y ∈ zb) (hy : y.name = "<init>") (hl : Cond.methodLink own idx y ∈ zb) (hM : Met l y (Cond.code y bytes maxL none :: zb) rm Pc (zQv post B A1) mc ms A1) (hp : PreS s H Pc [.ref b]) (hS : va_S A s.heap H locs) (hsub : ∀ q, A1 q → A q) (hsz : ls.size = nL) (hW : (rest.map fun v => v.category).sum ≤ 8) (hrm : rm.cells = mc ∧ rm.slots = ms) (hR : rm.frames + 1 ≤ R.frames ∧ 8 + (maxL + 11) + rm.locals ≤ R.locals) (hcs : cells + mc ≤ R.cells ∧ slots + ms ≤ R.slots) (hdg : decode cc pc = .ok (.invokespecial idx, 3))
    (kk : ∀ (u : S) (H1 : Heap) (locs1 : List Loc), post u → B u H1 → (∀ q : Nat, q < H.size → ¬ A1 q → H1[q]? = H[q]?) → va_S A s.heap H1 locs1 → W p l e R s m args below meth c H1 locs1 (cells + mc) (slots + ms) Q (F0 m (pc + 3) ls rest)) : W p l e R s m args below meth c H locs cells slots Q (F0 m pc ls (.ref b :: rest)) := by
  obtain ⟨hx, hb, hml, hown, hz, hr, hlk⟩ := zc
  obtain ⟨y1, y2, y3, y4⟩ := ky
  have cw : CallB R s args own idx y bytes maxL none (Cond.code y bytes maxL none :: zb) rm mc ms 0 := callB_of 0 hz (zb_self y3) rfl hrm.1 hrm.2 (by rw [y1]; exact hz _ y2) (hz _ hl) y4 hR
  exact va_callv (va_runI (As := []) (rest := rest) ⟨hx, hb, hml, hown, hz⟩ hM ⟨cw, hy, hz _ k2⟩ hp rfl rfl hsz rfl (lv_room hW) hdg hcs) hS (fun q _ h => hsub q h) hsub (fun u t H1 locs1 ht _ hpost hB _ hk1 hS1 => kk u H1 locs1 hpost (ht ▸ hB) hk1 hS1)
theorem zIpre {b ci : Nat} {fs : List Value} (hK : zK E s) (hO : zO s) (hP : va_P E.1 zcl [(b, .inr (ci, fs))] H) (hsz : H.size = b + 1) : PreS s H (va_Pc [.ref b] (zI E b ci fs)) [.ref b] := ⟨zI_blind, fun U hU hW => ⟨rfl, by rw [hU]; exact hsz, by rw [hU]; exact hP, zK_moved hW hK, zO_moved hW hO⟩⟩
theorem zIret {S : Type} {post : S → Prop} {B : S → Heap → Prop} (u : S) (zc : zC p s m args meth c cc nL own none) (hS : va_S A s.heap H locs) (hw : post u) (hB : B u H) (hdg : decode cc pc = .ok (.return_, 1)) : W p l e R s m args below meth c H locs cells slots (MQ below (zQv post B A) args s cells slots A) (F0 m pc ls []) := zret_vw u zc hS hw hB hdg
end ZN

