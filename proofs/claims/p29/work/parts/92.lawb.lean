/-! by hand: the law's reader, sums (printed in part by wip/e2/lb.py) -/
theorem qcs_0 : xe_look (xc 176) 0 = some (.aload_n 0, 1, 0, 0, 0) := by decide +kernel
theorem qcs_1 : xe_look (xc 176) 1 = some (.invokevirtual 306, 3, 0, 272, 1144) := by decide +kernel
theorem qcs_4 : xe_look (xc 176) 4 = some (.iconst 4, 1, 0, 0, 0) := by decide +kernel
theorem qcs_5 : xe_look (xc 176) 5 = some (.if_icmp .lt 12, 3, 0, 0, 0) := by decide +kernel
theorem qcs_8 : xe_look (xc 176) 8 = some (.aload_n 0, 1, 0, 0, 0) := by decide +kernel
theorem qcs_9 : xe_look (xc 176) 9 = some (.invokevirtual 306, 3, 0, 272, 1144) := by decide +kernel
theorem qcs_12 : xe_look (xc 176) 12 = some (.bipush 6, 2, 0, 0, 0) := by decide +kernel
theorem qcs_14 : xe_look (xc 176) 14 = some (.if_icmp .le 23, 3, 0, 0, 0) := by decide +kernel
theorem qcs_17 : xe_look (xc 176) 17 = some (.iload_n 1, 1, 0, 0, 0) := by decide +kernel
theorem qcs_18 : xe_look (xc 176) 18 = some (.ifCond .eq 41, 3, 0, 0, 0) := by decide +kernel
theorem qcs_21 : xe_look (xc 176) 21 = some (.aload_n 0, 1, 0, 0, 0) := by decide +kernel
theorem qcs_22 : xe_look (xc 176) 22 = some (.invokevirtual 306, 3, 0, 272, 1144) := by decide +kernel
theorem qcs_25 : xe_look (xc 176) 25 = some (.iconst 2, 1, 0, 0, 0) := by decide +kernel
theorem qcs_26 : xe_look (xc 176) 26 = some (.if_icmp .eq 11, 3, 0, 0, 0) := by decide +kernel
theorem qcs_29 : xe_look (xc 176) 29 = some (.aload_n 0, 1, 0, 0, 0) := by decide +kernel
theorem qcs_30 : xe_look (xc 176) 30 = some (.invokevirtual 306, 3, 0, 272, 1144) := by decide +kernel
theorem qcs_33 : xe_look (xc 176) 33 = some (.iconst 3, 1, 0, 0, 0) := by decide +kernel
theorem qcs_34 : xe_look (xc 176) 34 = some (.if_icmp .ne 25, 3, 0, 0, 0) := by decide +kernel
theorem qcs_37 : xe_look (xc 176) 37 = some (.aload_n 0, 1, 0, 0, 0) := by decide +kernel
theorem qcs_38 : xe_look (xc 176) 38 = some (.aload_n 0, 1, 0, 0, 0) := by decide +kernel
theorem qcs_39 : xe_look (xc 176) 39 = some (.invokevirtual 306, 3, 0, 272, 1144) := by decide +kernel
theorem qcs_42 : xe_look (xc 176) 42 = some (.iconst 0, 1, 0, 0, 0) := by decide +kernel
theorem qcs_43 : xe_look (xc 176) 43 = some (.invokevirtual 309, 3, 0, 223, 1145) := by decide +kernel
theorem qcs_46 : xe_look (xc 176) 46 = some (.aload_n 0, 1, 0, 0, 0) := by decide +kernel
theorem qcs_47 : xe_look (xc 176) 47 = some (.aload_n 0, 1, 0, 0, 0) := by decide +kernel
theorem qcs_48 : xe_look (xc 176) 48 = some (.getfield 303, 3, 12, 33, 1146) := by decide +kernel
theorem qcs_51 : xe_look (xc 176) 51 = some (.iconst 1, 1, 0, 0, 0) := by decide +kernel
theorem qcs_52 : xe_look (xc 176) 52 = some (.isub, 1, 0, 0, 0) := by decide +kernel
theorem qcs_53 : xe_look (xc 176) 53 = some (.putfield 303, 3, 12, 33, 1146) := by decide +kernel
theorem qcs_56 : xe_look (xc 176) 56 = some (.goto (-56), 3, 0, 0, 0) := by decide +kernel
theorem qcs_59 : xe_look (xc 176) 59 = some (.return_, 1, 0, 0, 0) := by decide +kernel
theorem qhs_0 : xe_look (xc 197) 0 = some (.iload_n 1, 1, 0, 0, 0) := by decide +kernel
theorem qhs_1 : xe_look (xc 197) 1 = some (.istore_n 2, 1, 0, 0, 0) := by decide +kernel
theorem qhs_2 : xe_look (xc 197) 2 = some (.iload_n 2, 1, 0, 0, 0) := by decide +kernel
theorem qhs_3 : xe_look (xc 197) 3 = some (.aload_n 0, 1, 0, 0, 0) := by decide +kernel
theorem qhs_4 : xe_look (xc 197) 4 = some (.getfield 303, 3, 12, 33, 1146) := by decide +kernel
theorem qhs_7 : xe_look (xc 197) 7 = some (.if_icmp .ge 26, 3, 0, 0, 0) := by decide +kernel
theorem qhs_10 : xe_look (xc 197) 10 = some (.aload_n 0, 1, 0, 0, 0) := by decide +kernel
theorem qhs_11 : xe_look (xc 197) 11 = some (.getfield 71, 3, 12, 37, 1189) := by decide +kernel
theorem qhs_14 : xe_look (xc 197) 14 = some (.iload_n 2, 1, 0, 0, 0) := by decide +kernel
theorem qhs_15 : xe_look (xc 197) 15 = some (.iaload, 1, 0, 0, 0) := by decide +kernel
theorem qhs_16 : xe_look (xc 197) 16 = some (.ldc_w 299, 3, 0, 2148532224, 1151) := by decide +kernel
theorem qhs_19 : xe_look (xc 197) 19 = some (.idiv, 1, 0, 0, 0) := by decide +kernel
theorem qhs_20 : xe_look (xc 197) 20 = some (.bipush 14, 2, 0, 0, 0) := by decide +kernel
theorem qhs_22 : xe_look (xc 197) 22 = some (.if_icmp .ne 5, 3, 0, 0, 0) := by decide +kernel
theorem qhs_25 : xe_look (xc 197) 25 = some (.iconst 1, 1, 0, 0, 0) := by decide +kernel
theorem qhs_26 : xe_look (xc 197) 26 = some (.ireturn, 1, 0, 0, 0) := by decide +kernel
theorem qhs_27 : xe_look (xc 197) 27 = some (.iinc 2 1, 3, 0, 0, 0) := by decide +kernel
theorem qhs_30 : xe_look (xc 197) 30 = some (.goto (-28), 3, 0, 0, 0) := by decide +kernel
theorem qhs_33 : xe_look (xc 197) 33 = some (.iconst 0, 1, 0, 0, 0) := by decide +kernel
theorem qhs_34 : xe_look (xc 197) 34 = some (.ireturn, 1, 0, 0, 0) := by decide +kernel
theorem qrf_0 : xe_look (xc 236) 0 = some (.aload_n 0, 1, 0, 0, 0) := by decide +kernel
theorem qrf_1 : xe_look (xc 236) 1 = some (.invokevirtual 252, 3, 0, 198, 1137) := by decide +kernel
theorem qrf_4 : xe_look (xc 236) 4 = some (.bipush 91, 2, 0, 0, 0) := by decide +kernel
theorem qrf_6 : xe_look (xc 236) 6 = some (.if_icmp .ne 14, 3, 0, 0, 0) := by decide +kernel
theorem qrf_9 : xe_look (xc 236) 9 = some (.aload_n 0, 1, 0, 0, 0) := by decide +kernel
theorem qrf_10 : xe_look (xc 236) 10 = some (.bipush 14, 2, 0, 0, 0) := by decide +kernel
theorem qrf_12 : xe_look (xc 236) 12 = some (.invokevirtual 313, 3, 0, 229, 1258) := by decide +kernel
theorem qrf_15 : xe_look (xc 236) 15 = some (.ifCond .ne (-15), 3, 0, 0, 0) := by decide +kernel
theorem qrf_18 : xe_look (xc 236) 18 = some (.iconst 0, 1, 0, 0, 0) := by decide +kernel
theorem qrf_19 : xe_look (xc 236) 19 = some (.ireturn, 1, 0, 0, 0) := by decide +kernel
theorem qrf_20 : xe_look (xc 236) 20 = some (.aload_n 0, 1, 0, 0, 0) := by decide +kernel
theorem qrf_21 : xe_look (xc 236) 21 = some (.invokevirtual 248, 3, 0, 203, 1136) := by decide +kernel
theorem qrf_24 : xe_look (xc 236) 24 = some (.ifCond .eq 23, 3, 0, 0, 0) := by decide +kernel
theorem qrf_27 : xe_look (xc 236) 27 = some (.aload_n 0, 1, 0, 0, 0) := by decide +kernel
theorem qrf_28 : xe_look (xc 236) 28 = some (.invokevirtual 316, 3, 0, 238, 1262) := by decide +kernel
theorem qrf_31 : xe_look (xc 236) 31 = some (.ifCond .ne 5, 3, 0, 0, 0) := by decide +kernel
theorem qrf_34 : xe_look (xc 236) 34 = some (.iconst 0, 1, 0, 0, 0) := by decide +kernel
theorem qrf_35 : xe_look (xc 236) 35 = some (.ireturn, 1, 0, 0, 0) := by decide +kernel
theorem qrf_36 : xe_look (xc 236) 36 = some (.aload_n 0, 1, 0, 0, 0) := by decide +kernel
theorem qrf_37 : xe_look (xc 236) 37 = some (.iconst 0, 1, 0, 0, 0) := by decide +kernel
theorem qrf_38 : xe_look (xc 236) 38 = some (.aload_n 0, 1, 0, 0, 0) := by decide +kernel
theorem qrf_39 : xe_look (xc 236) 39 = some (.getfield 245, 3, 12, 21, 1263) := by decide +kernel
theorem qrf_42 : xe_look (xc 236) 42 = some (.invokevirtual 309, 3, 0, 223, 1145) := by decide +kernel
theorem qrf_45 : xe_look (xc 236) 45 = some (.iconst 1, 1, 0, 0, 0) := by decide +kernel
theorem qrf_46 : xe_look (xc 236) 46 = some (.ireturn, 1, 0, 0, 0) := by decide +kernel
theorem qrf_47 : xe_look (xc 236) 47 = some (.aload_n 0, 1, 0, 0, 0) := by decide +kernel
theorem qrf_48 : xe_look (xc 236) 48 = some (.invokevirtual 252, 3, 0, 198, 1137) := by decide +kernel
theorem qrf_51 : xe_look (xc 236) 51 = some (.invokestatic 319, 3, 0, 188, 1264) := by decide +kernel
theorem qrf_54 : xe_look (xc 236) 54 = some (.istore_n 1, 1, 0, 0, 0) := by decide +kernel
theorem qrf_55 : xe_look (xc 236) 55 = some (.iload_n 1, 1, 0, 0, 0) := by decide +kernel
theorem qrf_56 : xe_look (xc 236) 56 = some (.iconst (-1), 1, 0, 0, 0) := by decide +kernel
theorem qrf_57 : xe_look (xc 236) 57 = some (.if_icmp .ne 13, 3, 0, 0, 0) := by decide +kernel
theorem qrf_60 : xe_look (xc 236) 60 = some (.aload_n 0, 1, 0, 0, 0) := by decide +kernel
theorem qrf_61 : xe_look (xc 236) 61 = some (.iconst 1, 1, 0, 0, 0) := by decide +kernel
theorem qrf_62 : xe_look (xc 236) 62 = some (.aload_n 0, 1, 0, 0, 0) := by decide +kernel
theorem qrf_63 : xe_look (xc 236) 63 = some (.getfield 242, 3, 12, 18, 1135) := by decide +kernel
theorem qrf_66 : xe_look (xc 236) 66 = some (.invokevirtual 256, 3, 0, 274, 1138) := by decide +kernel
theorem qrf_69 : xe_look (xc 236) 69 = some (.ireturn, 1, 0, 0, 0) := by decide +kernel
theorem qrf_70 : xe_look (xc 236) 70 = some (.aload_n 0, 1, 0, 0, 0) := by decide +kernel
theorem qrf_71 : xe_look (xc 236) 71 = some (.iconst 1, 1, 0, 0, 0) := by decide +kernel
theorem qrf_72 : xe_look (xc 236) 72 = some (.iload_n 1, 1, 0, 0, 0) := by decide +kernel
theorem qrf_73 : xe_look (xc 236) 73 = some (.invokevirtual 309, 3, 0, 223, 1145) := by decide +kernel
theorem qrf_76 : xe_look (xc 236) 76 = some (.aload_n 0, 1, 0, 0, 0) := by decide +kernel
theorem qrf_77 : xe_look (xc 236) 77 = some (.aload_n 0, 1, 0, 0, 0) := by decide +kernel
theorem qrf_78 : xe_look (xc 236) 78 = some (.getfield 242, 3, 12, 18, 1135) := by decide +kernel
theorem qrf_81 : xe_look (xc 236) 81 = some (.iconst 1, 1, 0, 0, 0) := by decide +kernel
theorem qrf_82 : xe_look (xc 236) 82 = some (.iadd, 1, 0, 0, 0) := by decide +kernel
theorem qrf_83 : xe_look (xc 236) 83 = some (.putfield 242, 3, 12, 18, 1135) := by decide +kernel
theorem qrf_86 : xe_look (xc 236) 86 = some (.iconst 1, 1, 0, 0, 0) := by decide +kernel
theorem qrf_87 : xe_look (xc 236) 87 = some (.ireturn, 1, 0, 0, 0) := by decide +kernel
theorem qrn_0 : xe_look (xc 238) 0 = some (.aload_n 0, 1, 0, 0, 0) := by decide +kernel
theorem qrn_1 : xe_look (xc 238) 1 = some (.getfield 242, 3, 12, 18, 1135) := by decide +kernel
theorem qrn_4 : xe_look (xc 238) 4 = some (.istore_n 1, 1, 0, 0, 0) := by decide +kernel
theorem qrn_5 : xe_look (xc 238) 5 = some (.aload_n 0, 1, 0, 0, 0) := by decide +kernel
theorem qrn_6 : xe_look (xc 238) 6 = some (.iconst 0, 1, 0, 0, 0) := by decide +kernel
theorem qrn_7 : xe_look (xc 238) 7 = some (.putfield 245, 3, 12, 21, 1263) := by decide +kernel
theorem qrn_10 : xe_look (xc 238) 10 = some (.aload_n 0, 1, 0, 0, 0) := by decide +kernel
theorem qrn_11 : xe_look (xc 238) 11 = some (.invokevirtual 248, 3, 0, 203, 1136) := by decide +kernel
theorem qrn_14 : xe_look (xc 238) 14 = some (.ifCond .eq 55, 3, 0, 0, 0) := by decide +kernel
theorem qrn_17 : xe_look (xc 238) 17 = some (.aload_n 0, 1, 0, 0, 0) := by decide +kernel
theorem qrn_18 : xe_look (xc 238) 18 = some (.getfield 242, 3, 12, 18, 1135) := by decide +kernel
theorem qrn_21 : xe_look (xc 238) 21 = some (.iload_n 1, 1, 0, 0, 0) := by decide +kernel
theorem qrn_22 : xe_look (xc 238) 22 = some (.iconst 5, 1, 0, 0, 0) := by decide +kernel
theorem qrn_23 : xe_look (xc 238) 23 = some (.iadd, 1, 0, 0, 0) := by decide +kernel
theorem qrn_24 : xe_look (xc 238) 24 = some (.if_icmp .ne 13, 3, 0, 0, 0) := by decide +kernel
theorem qrn_27 : xe_look (xc 238) 27 = some (.aload_n 0, 1, 0, 0, 0) := by decide +kernel
theorem qrn_28 : xe_look (xc 238) 28 = some (.iconst 2, 1, 0, 0, 0) := by decide +kernel
theorem qrn_29 : xe_look (xc 238) 29 = some (.aload_n 0, 1, 0, 0, 0) := by decide +kernel
theorem qrn_30 : xe_look (xc 238) 30 = some (.getfield 242, 3, 12, 18, 1135) := by decide +kernel
theorem qrn_33 : xe_look (xc 238) 33 = some (.invokevirtual 256, 3, 0, 274, 1138) := by decide +kernel
theorem qrn_36 : xe_look (xc 238) 36 = some (.ireturn, 1, 0, 0, 0) := by decide +kernel
theorem qrn_37 : xe_look (xc 238) 37 = some (.aload_n 0, 1, 0, 0, 0) := by decide +kernel
theorem qrn_38 : xe_look (xc 238) 38 = some (.bipush 10, 2, 0, 0, 0) := by decide +kernel
theorem qrn_40 : xe_look (xc 238) 40 = some (.aload_n 0, 1, 0, 0, 0) := by decide +kernel
theorem qrn_41 : xe_look (xc 238) 41 = some (.getfield 245, 3, 12, 21, 1263) := by decide +kernel
theorem qrn_44 : xe_look (xc 238) 44 = some (.imul, 1, 0, 0, 0) := by decide +kernel
theorem qrn_45 : xe_look (xc 238) 45 = some (.aload_n 0, 1, 0, 0, 0) := by decide +kernel
theorem qrn_46 : xe_look (xc 238) 46 = some (.invokevirtual 252, 3, 0, 198, 1137) := by decide +kernel
theorem qrn_49 : xe_look (xc 238) 49 = some (.iadd, 1, 0, 0, 0) := by decide +kernel
theorem qrn_50 : xe_look (xc 238) 50 = some (.bipush 48, 2, 0, 0, 0) := by decide +kernel
theorem qrn_52 : xe_look (xc 238) 52 = some (.isub, 1, 0, 0, 0) := by decide +kernel
theorem qrn_53 : xe_look (xc 238) 53 = some (.putfield 245, 3, 12, 21, 1263) := by decide +kernel
theorem qrn_56 : xe_look (xc 238) 56 = some (.aload_n 0, 1, 0, 0, 0) := by decide +kernel
theorem qrn_57 : xe_look (xc 238) 57 = some (.aload_n 0, 1, 0, 0, 0) := by decide +kernel
theorem qrn_58 : xe_look (xc 238) 58 = some (.getfield 242, 3, 12, 18, 1135) := by decide +kernel
theorem qrn_61 : xe_look (xc 238) 61 = some (.iconst 1, 1, 0, 0, 0) := by decide +kernel
theorem qrn_62 : xe_look (xc 238) 62 = some (.iadd, 1, 0, 0, 0) := by decide +kernel
theorem qrn_63 : xe_look (xc 238) 63 = some (.putfield 242, 3, 12, 18, 1135) := by decide +kernel
theorem qrn_66 : xe_look (xc 238) 66 = some (.goto (-56), 3, 0, 0, 0) := by decide +kernel
theorem qrn_69 : xe_look (xc 238) 69 = some (.iconst 1, 1, 0, 0, 0) := by decide +kernel
theorem qrn_70 : xe_look (xc 238) 70 = some (.ireturn, 1, 0, 0, 0) := by decide +kernel
theorem qsm_0 : xe_look (xc 241) 0 = some (.aload_n 0, 1, 0, 0, 0) := by decide +kernel
theorem qsm_1 : xe_look (xc 241) 1 = some (.getfield 303, 3, 12, 33, 1146) := by decide +kernel
theorem qsm_4 : xe_look (xc 241) 4 = some (.istore_n 1, 1, 0, 0, 0) := by decide +kernel
theorem qsm_5 : xe_look (xc 241) 5 = some (.aload_n 0, 1, 0, 0, 0) := by decide +kernel
theorem qsm_6 : xe_look (xc 241) 6 = some (.invokevirtual 322, 3, 0, 236, 1269) := by decide +kernel
theorem qsm_9 : xe_look (xc 241) 9 = some (.ifCond .ne 5, 3, 0, 0, 0) := by decide +kernel
theorem qsm_12 : xe_look (xc 241) 12 = some (.iconst 0, 1, 0, 0, 0) := by decide +kernel
theorem qsm_13 : xe_look (xc 241) 13 = some (.ireturn, 1, 0, 0, 0) := by decide +kernel
theorem qsm_14 : xe_look (xc 241) 14 = some (.aload_n 0, 1, 0, 0, 0) := by decide +kernel
theorem qsm_15 : xe_look (xc 241) 15 = some (.invokevirtual 252, 3, 0, 198, 1137) := by decide +kernel
theorem qsm_18 : xe_look (xc 241) 18 = some (.invokestatic 325, 3, 0, 256, 1270) := by decide +kernel
theorem qsm_21 : xe_look (xc 241) 21 = some (.istore_n 2, 1, 0, 0, 0) := by decide +kernel
theorem qsm_22 : xe_look (xc 241) 22 = some (.iload_n 2, 1, 0, 0, 0) := by decide +kernel
theorem qsm_23 : xe_look (xc 241) 23 = some (.iconst (-1), 1, 0, 0, 0) := by decide +kernel
theorem qsm_24 : xe_look (xc 241) 24 = some (.if_icmp .eq 60, 3, 0, 0, 0) := by decide +kernel
theorem qsm_27 : xe_look (xc 241) 27 = some (.aload_n 0, 1, 0, 0, 0) := by decide +kernel
theorem qsm_28 : xe_look (xc 241) 28 = some (.iload_n 2, 1, 0, 0, 0) := by decide +kernel
theorem qsm_29 : xe_look (xc 241) 29 = some (.iconst 4, 1, 0, 0, 0) := by decide +kernel
theorem qsm_30 : xe_look (xc 241) 30 = some (.if_icmp .ge 7, 3, 0, 0, 0) := by decide +kernel
theorem qsm_33 : xe_look (xc 241) 33 = some (.iconst 1, 1, 0, 0, 0) := by decide +kernel
theorem qsm_34 : xe_look (xc 241) 34 = some (.goto 4, 3, 0, 0, 0) := by decide +kernel
theorem qsm_37 : xe_look (xc 241) 37 = some (.iconst 0, 1, 0, 0, 0) := by decide +kernel
theorem qsm_38 : xe_look (xc 241) 38 = some (.invokevirtual 328, 3, 0, 176, 1271) := by decide +kernel
theorem qsm_41 : xe_look (xc 241) 41 = some (.aload_n 0, 1, 0, 0, 0) := by decide +kernel
theorem qsm_42 : xe_look (xc 241) 42 = some (.getfield 71, 3, 12, 37, 1189) := by decide +kernel
theorem qsm_45 : xe_look (xc 241) 45 = some (.aload_n 0, 1, 0, 0, 0) := by decide +kernel
theorem qsm_46 : xe_look (xc 241) 46 = some (.getfield 303, 3, 12, 33, 1146) := by decide +kernel
theorem qsm_49 : xe_look (xc 241) 49 = some (.ldc_w 299, 3, 0, 2148532224, 1151) := by decide +kernel
theorem qsm_52 : xe_look (xc 241) 52 = some (.iload_n 2, 1, 0, 0, 0) := by decide +kernel
theorem qsm_53 : xe_look (xc 241) 53 = some (.imul, 1, 0, 0, 0) := by decide +kernel
theorem qsm_54 : xe_look (xc 241) 54 = some (.iastore, 1, 0, 0, 0) := by decide +kernel
theorem qsm_55 : xe_look (xc 241) 55 = some (.aload_n 0, 1, 0, 0, 0) := by decide +kernel
theorem qsm_56 : xe_look (xc 241) 56 = some (.aload_n 0, 1, 0, 0, 0) := by decide +kernel
theorem qsm_57 : xe_look (xc 241) 57 = some (.getfield 303, 3, 12, 33, 1146) := by decide +kernel
theorem qsm_60 : xe_look (xc 241) 60 = some (.iconst 1, 1, 0, 0, 0) := by decide +kernel
theorem qsm_61 : xe_look (xc 241) 61 = some (.iadd, 1, 0, 0, 0) := by decide +kernel
theorem qsm_62 : xe_look (xc 241) 62 = some (.putfield 303, 3, 12, 33, 1146) := by decide +kernel
theorem qsm_65 : xe_look (xc 241) 65 = some (.aload_n 0, 1, 0, 0, 0) := by decide +kernel
theorem qsm_66 : xe_look (xc 241) 66 = some (.aload_n 0, 1, 0, 0, 0) := by decide +kernel
theorem qsm_67 : xe_look (xc 241) 67 = some (.getfield 242, 3, 12, 18, 1135) := by decide +kernel
theorem qsm_70 : xe_look (xc 241) 70 = some (.iconst 1, 1, 0, 0, 0) := by decide +kernel
theorem qsm_71 : xe_look (xc 241) 71 = some (.iadd, 1, 0, 0, 0) := by decide +kernel
theorem qsm_72 : xe_look (xc 241) 72 = some (.putfield 242, 3, 12, 18, 1135) := by decide +kernel
theorem qsm_75 : xe_look (xc 241) 75 = some (.aload_n 0, 1, 0, 0, 0) := by decide +kernel
theorem qsm_76 : xe_look (xc 241) 76 = some (.invokevirtual 322, 3, 0, 236, 1269) := by decide +kernel
theorem qsm_79 : xe_look (xc 241) 79 = some (.ifCond .ne 85, 3, 0, 0, 0) := by decide +kernel
theorem qsm_82 : xe_look (xc 241) 82 = some (.iconst 0, 1, 0, 0, 0) := by decide +kernel
theorem qsm_83 : xe_look (xc 241) 83 = some (.ireturn, 1, 0, 0, 0) := by decide +kernel
theorem qsm_84 : xe_look (xc 241) 84 = some (.aload_n 0, 1, 0, 0, 0) := by decide +kernel
theorem qsm_85 : xe_look (xc 241) 85 = some (.invokevirtual 252, 3, 0, 198, 1137) := by decide +kernel
theorem qsm_88 : xe_look (xc 241) 88 = some (.bipush 93, 2, 0, 0, 0) := by decide +kernel
theorem qsm_90 : xe_look (xc 241) 90 = some (.if_icmp .ne 49, 3, 0, 0, 0) := by decide +kernel
theorem qsm_93 : xe_look (xc 241) 93 = some (.aload_n 0, 1, 0, 0, 0) := by decide +kernel
theorem qsm_94 : xe_look (xc 241) 94 = some (.iload_n 1, 1, 0, 0, 0) := by decide +kernel
theorem qsm_95 : xe_look (xc 241) 95 = some (.invokevirtual 332, 3, 0, 197, 1272) := by decide +kernel
theorem qsm_98 : xe_look (xc 241) 98 = some (.ifCond .eq 41, 3, 0, 0, 0) := by decide +kernel
theorem qsm_101 : xe_look (xc 241) 101 = some (.aload_n 0, 1, 0, 0, 0) := by decide +kernel
theorem qsm_102 : xe_look (xc 241) 102 = some (.iconst 1, 1, 0, 0, 0) := by decide +kernel
theorem qsm_103 : xe_look (xc 241) 103 = some (.invokevirtual 328, 3, 0, 176, 1271) := by decide +kernel
theorem qsm_106 : xe_look (xc 241) 106 = some (.aload_n 0, 1, 0, 0, 0) := by decide +kernel
theorem qsm_107 : xe_look (xc 241) 107 = some (.aload_n 0, 1, 0, 0, 0) := by decide +kernel
theorem qsm_108 : xe_look (xc 241) 108 = some (.getfield 303, 3, 12, 33, 1146) := by decide +kernel
theorem qsm_111 : xe_look (xc 241) 111 = some (.iconst 1, 1, 0, 0, 0) := by decide +kernel
theorem qsm_112 : xe_look (xc 241) 112 = some (.isub, 1, 0, 0, 0) := by decide +kernel
theorem qsm_113 : xe_look (xc 241) 113 = some (.putfield 303, 3, 12, 33, 1146) := by decide +kernel
theorem qsm_116 : xe_look (xc 241) 116 = some (.aload_n 0, 1, 0, 0, 0) := by decide +kernel
theorem qsm_117 : xe_look (xc 241) 117 = some (.aload_n 0, 1, 0, 0, 0) := by decide +kernel
theorem qsm_118 : xe_look (xc 241) 118 = some (.getfield 300, 3, 12, 31, 1170) := by decide +kernel
theorem qsm_121 : xe_look (xc 241) 121 = some (.iconst 1, 1, 0, 0, 0) := by decide +kernel
theorem qsm_122 : xe_look (xc 241) 122 = some (.isub, 1, 0, 0, 0) := by decide +kernel
theorem qsm_123 : xe_look (xc 241) 123 = some (.putfield 300, 3, 12, 31, 1170) := by decide +kernel
theorem qsm_126 : xe_look (xc 241) 126 = some (.aload_n 0, 1, 0, 0, 0) := by decide +kernel
theorem qsm_127 : xe_look (xc 241) 127 = some (.aload_n 0, 1, 0, 0, 0) := by decide +kernel
theorem qsm_128 : xe_look (xc 241) 128 = some (.getfield 242, 3, 12, 18, 1135) := by decide +kernel
theorem qsm_131 : xe_look (xc 241) 131 = some (.iconst 1, 1, 0, 0, 0) := by decide +kernel
theorem qsm_132 : xe_look (xc 241) 132 = some (.iadd, 1, 0, 0, 0) := by decide +kernel
theorem qsm_133 : xe_look (xc 241) 133 = some (.putfield 242, 3, 12, 18, 1135) := by decide +kernel
theorem qsm_136 : xe_look (xc 241) 136 = some (.goto 28, 3, 0, 0, 0) := by decide +kernel
theorem qsm_139 : xe_look (xc 241) 139 = some (.aload_n 0, 1, 0, 0, 0) := by decide +kernel
theorem qsm_140 : xe_look (xc 241) 140 = some (.iload_n 1, 1, 0, 0, 0) := by decide +kernel
theorem qsm_141 : xe_look (xc 241) 141 = some (.invokevirtual 332, 3, 0, 197, 1272) := by decide +kernel
theorem qsm_144 : xe_look (xc 241) 144 = some (.ifCond .eq 13, 3, 0, 0, 0) := by decide +kernel
theorem qsm_147 : xe_look (xc 241) 147 = some (.aload_n 0, 1, 0, 0, 0) := by decide +kernel
theorem qsm_148 : xe_look (xc 241) 148 = some (.iconst 1, 1, 0, 0, 0) := by decide +kernel
theorem qsm_149 : xe_look (xc 241) 149 = some (.aload_n 0, 1, 0, 0, 0) := by decide +kernel
theorem qsm_150 : xe_look (xc 241) 150 = some (.getfield 242, 3, 12, 18, 1135) := by decide +kernel
theorem qsm_153 : xe_look (xc 241) 153 = some (.invokevirtual 256, 3, 0, 274, 1138) := by decide +kernel
theorem qsm_156 : xe_look (xc 241) 156 = some (.ireturn, 1, 0, 0, 0) := by decide +kernel
theorem qsm_157 : xe_look (xc 241) 157 = some (.aload_n 0, 1, 0, 0, 0) := by decide +kernel
theorem qsm_158 : xe_look (xc 241) 158 = some (.iconst 1, 1, 0, 0, 0) := by decide +kernel
theorem qsm_159 : xe_look (xc 241) 159 = some (.invokevirtual 328, 3, 0, 176, 1271) := by decide +kernel
theorem qsm_162 : xe_look (xc 241) 162 = some (.iconst 1, 1, 0, 0, 0) := by decide +kernel
theorem qsm_163 : xe_look (xc 241) 163 = some (.ireturn, 1, 0, 0, 0) := by decide +kernel
theorem qsm_164 : xe_look (xc 241) 164 = some (.goto (-150), 3, 0, 0, 0) := by decide +kernel

theorem sJ_nn {c0 b : Nat} {p0 : Int} {f0 w0 : Nat → Int} {p c w : Int} {f v : Nat → Int} {δ : Int} (h : sJ c0 b p0 f0 w0 p c w f v δ) (hw0 : ∀ j, j < b → 0 ≤ w0 j ∧ ¬ (2 ≤ w0 j / 1048576 ∧ w0 j / 1048576 ≤ 6)) (hw : 1 ≤ w) : 0 ≤ v (w - 1).toNat := by
  by_cases q : (w - 1).toNat < b
  · rw [h.2.1 _ q]
    exact (hw0 _ q).1
  · exact (h.2.2.2.1 _ (by omega) (by omega)).1
theorem sJ_top {c0 b : Nat} {p0 : Int} {f0 w0 : Nat → Int} {p c w : Int} {f v : Nat → Int} {δ : Int} (h : sJ c0 b p0 f0 w0 p c w f v δ) (hw0 : ∀ j, j < b → 0 ≤ w0 j ∧ ¬ (2 ≤ w0 j / 1048576 ∧ w0 j / 1048576 ≤ 6)) (hw : 1 ≤ w) (ho : 2 ≤ v (w - 1).toNat / 1048576 ∧ v (w - 1).toNat / 1048576 ≤ 6) : (b : Int) < w := by
  by_cases q : (w - 1).toNat < b
  · rw [h.2.1 _ q] at ho
    exact absurd ho (hw0 _ q).2
  · omega
theorem sJ_c {c0 b : Nat} {p0 : Int} {f0 w0 : Nat → Int} {p c w : Int} {f v : Nat → Int} {δ : Int} (h : sJ c0 b p0 f0 w0 p c w f v δ) (hc0 : (c0 : Int) + kW w0 b ≤ p0) : 0 ≤ c ∧ c ≤ p ∧ 0 ≤ w ∧ w ≤ p := by
  have := h.1
  have := kW_0 v w.toNat
  omega
def sG (c0 b : Nat) (p0 : Int) (f0 w0 : Nat → Int) (g : pH) (δ : Int) : Prop := sJ c0 b p0 f0 w0 (fF g 18) (fF g 32) (fF g 33) (fA g 216) (fA g 217) δ
set_option maxHeartbeats 8000000 in
theorem cs_loop {d : Nat} (hd : 1 ≤ d) {h0 gs : pH} {c0 b : Nat} {p0 : Int} {f0 w0 : Nat → Int} (hw0 : ∀ j, j < b → 0 ≤ w0 j ∧ ¬ (2 ≤ w0 j / 1048576 ∧ w0 j / 1048576 ≤ 6)) (hc0 : (c0 : Int) + kW w0 b ≤ p0) {al : Int} (hal : al = 0 ∨ al = 1) {P : Option pv × pH → Prop} (hP : ∀ g1 : pH, J_ Wu h0 g1 → sG c0 b p0 f0 w0 g1 1 → fF g1 18 = fF gs 18 → fF g1 19 = fF gs 19 → fA g1 217 = fA gs 217 → fF g1 33 ≤ fF gs 33 → (∀ j : Nat, fF g1 33 ≤ j → (j : Int) < fF gs 33 → 2 ≤ fA gs 217 j / 1048576 ∧ fA gs 217 j / 1048576 ≤ 6) → (fF g1 33 = 0 ∨ (¬ (4 ≤ fA g1 217 (fF g1 33 - 1).toNat / 1048576 ∧ fA g1 217 (fF g1 33 - 1).toNat / 1048576 ≤ 6) ∧ (al = 1 → ¬ (2 ≤ fA g1 217 (fF g1 33 - 1).toNat / 1048576 ∧ fA g1 217 (fF g1 33 - 1).toNat / 1048576 ≤ 3)))) → P (none, g1)) : ∀ (m : Nat) (g : pH) (lv : List (Nat × pv)), fF g 33 ≤ m → J_ Wu h0 g → sG c0 b p0 f0 w0 g 1 → (fF g 18 = fF gs 18 ∧ fF g 19 = fF gs 19 ∧ fF g 18 ≤ 240) → fA g 217 = fA gs 217 → fF g 33 ≤ fF gs 33 → (∀ j : Nat, fF g 33 ≤ j → (j : Int) < fF gs 33 → 2 ≤ fA gs 217 j / 1048576 ∧ fA gs 217 j / 1048576 ≤ 6) → px_lg lv 0 = some (pvR 196) → px_lg lv 1 = some (oI al) → t_X d 176 0 lv [] g P := by
  obtain ⟨w_18, w_20, w_21, w_31, w_32, w_33, w_a216, w_a217, z_19⟩ := Wu_f
  intro m
  induction m with
  | zero =>
    intro g lv hm hJ hs hp hv hw hj l0 l1
    have hsc := sJ_c hs hc0
    refine t_0 qcs_0 rfl (ld_a l0) ?_
    refine t_3 qcs_1 rfl (ar := ([pvR 196], [])) (pcal_v0 rfl rfl el_196) ⟨by omega, Nat.le_of_ble_eq_true rfl, Nat.le_of_ble_eq_true rfl, rfl⟩ ?_
    refine wt_run hJ ⟨by omega, by omega⟩ (fun _ => sJ_nn hs hw0 (by omega)) (fun z1 hz1 => ?_) rfl
    show t_X d 176 4 lv [oI (z1)] g P
    have b1 : -1 ≤ z1 ∧ z1 ≤ 2147483647 := by
      have := fA_b g 217 (fF g 33 - 1).toNat
      have hn : 1 ≤ fF g 33 → 0 ≤ fA g 217 (fF g 33 - 1).toNat := fun _ => sJ_nn hs hw0 (by omega)
      omega
    refine t_0 qcs_4 rfl rfl ?_
    refine tb_lt qcs_5 (by decide) ⟨by omega, by omega⟩ ⟨by omega, by omega⟩ (fun c2 => ?_) (fun c2 => ?_)
    · show t_X d 176 17 lv [] g P
      refine t_0 qcs_17 rfl (ld_i l1) ?_
      refine tz_eq qcs_18 (by decide) ⟨by omega, by omega⟩ (fun c3 => ?_) (fun c3 => ?_)
      · show t_X d 176 59 lv [] g P
        refine t_5 qcs_59 rfl rfl ?_
        exact hP _ hJ hs (by omega) (by omega) hv hw hj (by omega)
      · show t_X d 176 21 lv [] g P
        refine t_0 qcs_21 rfl (ld_a l0) ?_
        refine t_3 qcs_22 rfl (ar := ([pvR 196], [])) (pcal_v0 rfl rfl el_196) ⟨by omega, Nat.le_of_ble_eq_true rfl, Nat.le_of_ble_eq_true rfl, rfl⟩ ?_
        refine wt_run hJ ⟨by omega, by omega⟩ (fun _ => sJ_nn hs hw0 (by omega)) (fun z4 hz4 => ?_) rfl
        show t_X d 176 25 lv [oI (z4)] g P
        have b4 : -1 ≤ z4 ∧ z4 ≤ 2147483647 := by
          have := fA_b g 217 (fF g 33 - 1).toNat
          have hn : 1 ≤ fF g 33 → 0 ≤ fA g 217 (fF g 33 - 1).toNat := fun _ => sJ_nn hs hw0 (by omega)
          omega
        refine t_0 qcs_25 rfl rfl ?_
        refine tb_eq qcs_26 (by decide) ⟨by omega, by omega⟩ ⟨by omega, by omega⟩ (fun c5 => ?_) (fun c5 => ?_)
        · show t_X d 176 37 lv [] g P
          exact False.elim (by omega)
        · show t_X d 176 29 lv [] g P
          refine t_0 qcs_29 rfl (ld_a l0) ?_
          refine t_3 qcs_30 rfl (ar := ([pvR 196], [])) (pcal_v0 rfl rfl el_196) ⟨by omega, Nat.le_of_ble_eq_true rfl, Nat.le_of_ble_eq_true rfl, rfl⟩ ?_
          refine wt_run hJ ⟨by omega, by omega⟩ (fun _ => sJ_nn hs hw0 (by omega)) (fun z6 hz6 => ?_) rfl
          show t_X d 176 33 lv [oI (z6)] g P
          have b6 : -1 ≤ z6 ∧ z6 ≤ 2147483647 := by
            have := fA_b g 217 (fF g 33 - 1).toNat
            have hn : 1 ≤ fF g 33 → 0 ≤ fA g 217 (fF g 33 - 1).toNat := fun _ => sJ_nn hs hw0 (by omega)
            omega
          refine t_0 qcs_33 rfl rfl ?_
          refine tb_ne qcs_34 (by decide) ⟨by omega, by omega⟩ ⟨by omega, by omega⟩ (fun c7 => ?_) (fun c7 => ?_)
          · show t_X d 176 59 lv [] g P
            refine t_5 qcs_59 rfl rfl ?_
            exact hP _ hJ hs (by omega) (by omega) hv hw hj (by omega)
          · show t_X d 176 37 lv [] g P
            exact False.elim (by omega)
    · show t_X d 176 8 lv [] g P
      refine t_0 qcs_8 rfl (ld_a l0) ?_
      refine t_3 qcs_9 rfl (ar := ([pvR 196], [])) (pcal_v0 rfl rfl el_196) ⟨by omega, Nat.le_of_ble_eq_true rfl, Nat.le_of_ble_eq_true rfl, rfl⟩ ?_
      refine wt_run hJ ⟨by omega, by omega⟩ (fun _ => sJ_nn hs hw0 (by omega)) (fun z8 hz8 => ?_) rfl
      show t_X d 176 12 lv [oI (z8)] g P
      have b8 : -1 ≤ z8 ∧ z8 ≤ 2147483647 := by
        have := fA_b g 217 (fF g 33 - 1).toNat
        have hn : 1 ≤ fF g 33 → 0 ≤ fA g 217 (fF g 33 - 1).toNat := fun _ => sJ_nn hs hw0 (by omega)
        omega
      refine t_0 qcs_12 rfl (pq_b (by decide)) ?_
      refine tb_le qcs_14 (by decide) ⟨by omega, by omega⟩ ⟨by omega, by omega⟩ (fun c9 => ?_) (fun c9 => ?_)
      · show t_X d 176 37 lv [] g P
        exact False.elim (by omega)
      · show t_X d 176 17 lv [] g P
        refine t_0 qcs_17 rfl (ld_i l1) ?_
        refine tz_eq qcs_18 (by decide) ⟨by omega, by omega⟩ (fun c10 => ?_) (fun c10 => ?_)
        · show t_X d 176 59 lv [] g P
          refine t_5 qcs_59 rfl rfl ?_
          exact hP _ hJ hs (by omega) (by omega) hv hw hj (by omega)
        · show t_X d 176 21 lv [] g P
          refine t_0 qcs_21 rfl (ld_a l0) ?_
          refine t_3 qcs_22 rfl (ar := ([pvR 196], [])) (pcal_v0 rfl rfl el_196) ⟨by omega, Nat.le_of_ble_eq_true rfl, Nat.le_of_ble_eq_true rfl, rfl⟩ ?_
          refine wt_run hJ ⟨by omega, by omega⟩ (fun _ => sJ_nn hs hw0 (by omega)) (fun z11 hz11 => ?_) rfl
          show t_X d 176 25 lv [oI (z11)] g P
          have b11 : -1 ≤ z11 ∧ z11 ≤ 2147483647 := by
            have := fA_b g 217 (fF g 33 - 1).toNat
            have hn : 1 ≤ fF g 33 → 0 ≤ fA g 217 (fF g 33 - 1).toNat := fun _ => sJ_nn hs hw0 (by omega)
            omega
          refine t_0 qcs_25 rfl rfl ?_
          refine tb_eq qcs_26 (by decide) ⟨by omega, by omega⟩ ⟨by omega, by omega⟩ (fun c12 => ?_) (fun c12 => ?_)
          · show t_X d 176 37 lv [] g P
            exact False.elim (by omega)
          · show t_X d 176 29 lv [] g P
            refine t_0 qcs_29 rfl (ld_a l0) ?_
            refine t_3 qcs_30 rfl (ar := ([pvR 196], [])) (pcal_v0 rfl rfl el_196) ⟨by omega, Nat.le_of_ble_eq_true rfl, Nat.le_of_ble_eq_true rfl, rfl⟩ ?_
            refine wt_run hJ ⟨by omega, by omega⟩ (fun _ => sJ_nn hs hw0 (by omega)) (fun z13 hz13 => ?_) rfl
            show t_X d 176 33 lv [oI (z13)] g P
            have b13 : -1 ≤ z13 ∧ z13 ≤ 2147483647 := by
              have := fA_b g 217 (fF g 33 - 1).toNat
              have hn : 1 ≤ fF g 33 → 0 ≤ fA g 217 (fF g 33 - 1).toNat := fun _ => sJ_nn hs hw0 (by omega)
              omega
            refine t_0 qcs_33 rfl rfl ?_
            refine tb_ne qcs_34 (by decide) ⟨by omega, by omega⟩ ⟨by omega, by omega⟩ (fun c14 => ?_) (fun c14 => ?_)
            · show t_X d 176 59 lv [] g P
              refine t_5 qcs_59 rfl rfl ?_
              exact hP _ hJ hs (by omega) (by omega) hv hw hj (by omega)
            · show t_X d 176 37 lv [] g P
              exact False.elim (by omega)
  | succ m ih =>
    intro g lv hm hJ hs hp hv hw hj l0 l1
    have hsc := sJ_c hs hc0
    refine t_0 qcs_0 rfl (ld_a l0) ?_
    refine t_3 qcs_1 rfl (ar := ([pvR 196], [])) (pcal_v0 rfl rfl el_196) ⟨by omega, Nat.le_of_ble_eq_true rfl, Nat.le_of_ble_eq_true rfl, rfl⟩ ?_
    refine wt_run hJ ⟨by omega, by omega⟩ (fun _ => sJ_nn hs hw0 (by omega)) (fun z1 hz1 => ?_) rfl
    show t_X d 176 4 lv [oI (z1)] g P
    have b1 : -1 ≤ z1 ∧ z1 ≤ 2147483647 := by
      have := fA_b g 217 (fF g 33 - 1).toNat
      have hn : 1 ≤ fF g 33 → 0 ≤ fA g 217 (fF g 33 - 1).toNat := fun _ => sJ_nn hs hw0 (by omega)
      omega
    refine t_0 qcs_4 rfl rfl ?_
    refine tb_lt qcs_5 (by decide) ⟨by omega, by omega⟩ ⟨by omega, by omega⟩ (fun c2 => ?_) (fun c2 => ?_)
    · show t_X d 176 17 lv [] g P
      refine t_0 qcs_17 rfl (ld_i l1) ?_
      refine tz_eq qcs_18 (by decide) ⟨by omega, by omega⟩ (fun c3 => ?_) (fun c3 => ?_)
      · show t_X d 176 59 lv [] g P
        refine t_5 qcs_59 rfl rfl ?_
        exact hP _ hJ hs (by omega) (by omega) hv hw hj (by omega)
      · show t_X d 176 21 lv [] g P
        refine t_0 qcs_21 rfl (ld_a l0) ?_
        refine t_3 qcs_22 rfl (ar := ([pvR 196], [])) (pcal_v0 rfl rfl el_196) ⟨by omega, Nat.le_of_ble_eq_true rfl, Nat.le_of_ble_eq_true rfl, rfl⟩ ?_
        refine wt_run hJ ⟨by omega, by omega⟩ (fun _ => sJ_nn hs hw0 (by omega)) (fun z4 hz4 => ?_) rfl
        show t_X d 176 25 lv [oI (z4)] g P
        have b4 : -1 ≤ z4 ∧ z4 ≤ 2147483647 := by
          have := fA_b g 217 (fF g 33 - 1).toNat
          have hn : 1 ≤ fF g 33 → 0 ≤ fA g 217 (fF g 33 - 1).toNat := fun _ => sJ_nn hs hw0 (by omega)
          omega
        refine t_0 qcs_25 rfl rfl ?_
        refine tb_eq qcs_26 (by decide) ⟨by omega, by omega⟩ ⟨by omega, by omega⟩ (fun c5 => ?_) (fun c5 => ?_)
        · show t_X d 176 37 lv [] g P
          refine t_0 qcs_37 rfl (ld_a l0) ?_
          refine t_0 qcs_38 rfl (ld_a l0) ?_
          refine t_3 qcs_39 rfl (ar := ([pvR 196], [pvR 196])) (pcal_v0 rfl rfl el_196) ⟨by omega, Nat.le_of_ble_eq_true rfl, Nat.le_of_ble_eq_true rfl, rfl⟩ ?_
          refine wt_run hJ ⟨by omega, by omega⟩ (fun _ => sJ_nn hs hw0 (by omega)) (fun z6 hz6 => ?_) rfl
          show t_X d 176 42 lv [oI (z6), pvR 196] g P
          have b6 : -1 ≤ z6 ∧ z6 ≤ 2147483647 := by
            have := fA_b g 217 (fF g 33 - 1).toNat
            have hn : 1 ≤ fF g 33 → 0 ≤ fA g 217 (fF g 33 - 1).toNat := fun _ => sJ_nn hs hw0 (by omega)
            omega
          refine t_0 qcs_42 rfl rfl ?_
          refine t_3 qcs_43 rfl (ar := ([pvR 196, oI (z6), oI (0)], [])) (pcal_v2 rfl rfl el_196) ⟨by omega, Nat.le_of_ble_eq_true rfl, Nat.le_of_ble_eq_true rfl, rfl⟩ ?_
          refine nt_run hJ ⟨by omega, by omega⟩ ⟨by omega, by omega⟩ ⟨by omega, by omega⟩ (fun g7 hJ7 n7 f7 x7 y7 a7 => ?_) rfl rfl rfl
          have q7_18 := f7 18 (by decide)
          have q7_19 := f7 19 (by decide)
          have q7_33 := f7 33 (by decide)
          show t_X d 176 46 lv [] g7 P
          refine t_0 qcs_46 rfl (ld_a l0) ?_
          refine t_0 qcs_47 rfl (ld_a l0) ?_
          have r8 := fF_b g7 33
          refine t_0 qcs_48 rfl (pq_gf (y := 33) rfl) ?_
          refine t_0 qcs_51 rfl rfl ?_
          refine t_0 qcs_52 rfl pq_sub ?_
          refine tw_f qcs_53 rfl hJ7 w_33 gf_33 (by decide) ⟨by omega, by omega⟩ (fun g9 hJ9 v9 f9 a9 => ?_)
          replace a9 := fA_2 a9
          have q9_18 := f9 18 (by decide)
          have q9_19 := f9 19 (by decide)
          have q9_32 := f9 32 (by decide)
          show t_X d 176 56 lv [] g9 P
          refine t_1 qcs_56 rfl (pb_goto (pc := 56) (by decide)) ?_
          show t_X d 176 0 lv [] g9 P
          have hb1 := sJ_top hs hw0 (by omega) (by omega)
          have e18 : fF g9 18 = fF g 18 := by omega
          have e32 : fF g9 32 = fF g 32 + 1 := by omega
          have e33 : fF g9 33 = fF g 33 - 1 := by omega
          have e217 : fA g9 217 = fA g 217 := by rw [a9, a7 217 (by decide)]
          refine ih _ _ (by omega) hJ9 ?_ (by omega) (by rw [e217]; exact hv) (by omega) (fun j j1 j2 => ?_) l0 l1
          · unfold sG
            rw [e18, e32, e33, e217]
            exact sJ_close hs hb1 (x := 1048576 * z6 + 0) (by omega) (by omega) (by rw [a9]; exact x7) (fun u hu => by rw [a9]; exact y7 u hu)
          · by_cases q : j = (fF g 33 - 1).toNat
            · subst q
              rw [← hv]
              omega
            · exact hj j (by omega) j2
        · show t_X d 176 29 lv [] g P
          refine t_0 qcs_29 rfl (ld_a l0) ?_
          refine t_3 qcs_30 rfl (ar := ([pvR 196], [])) (pcal_v0 rfl rfl el_196) ⟨by omega, Nat.le_of_ble_eq_true rfl, Nat.le_of_ble_eq_true rfl, rfl⟩ ?_
          refine wt_run hJ ⟨by omega, by omega⟩ (fun _ => sJ_nn hs hw0 (by omega)) (fun z10 hz10 => ?_) rfl
          show t_X d 176 33 lv [oI (z10)] g P
          have b10 : -1 ≤ z10 ∧ z10 ≤ 2147483647 := by
            have := fA_b g 217 (fF g 33 - 1).toNat
            have hn : 1 ≤ fF g 33 → 0 ≤ fA g 217 (fF g 33 - 1).toNat := fun _ => sJ_nn hs hw0 (by omega)
            omega
          refine t_0 qcs_33 rfl rfl ?_
          refine tb_ne qcs_34 (by decide) ⟨by omega, by omega⟩ ⟨by omega, by omega⟩ (fun c11 => ?_) (fun c11 => ?_)
          · show t_X d 176 59 lv [] g P
            refine t_5 qcs_59 rfl rfl ?_
            exact hP _ hJ hs (by omega) (by omega) hv hw hj (by omega)
          · show t_X d 176 37 lv [] g P
            refine t_0 qcs_37 rfl (ld_a l0) ?_
            refine t_0 qcs_38 rfl (ld_a l0) ?_
            refine t_3 qcs_39 rfl (ar := ([pvR 196], [pvR 196])) (pcal_v0 rfl rfl el_196) ⟨by omega, Nat.le_of_ble_eq_true rfl, Nat.le_of_ble_eq_true rfl, rfl⟩ ?_
            refine wt_run hJ ⟨by omega, by omega⟩ (fun _ => sJ_nn hs hw0 (by omega)) (fun z12 hz12 => ?_) rfl
            show t_X d 176 42 lv [oI (z12), pvR 196] g P
            have b12 : -1 ≤ z12 ∧ z12 ≤ 2147483647 := by
              have := fA_b g 217 (fF g 33 - 1).toNat
              have hn : 1 ≤ fF g 33 → 0 ≤ fA g 217 (fF g 33 - 1).toNat := fun _ => sJ_nn hs hw0 (by omega)
              omega
            refine t_0 qcs_42 rfl rfl ?_
            refine t_3 qcs_43 rfl (ar := ([pvR 196, oI (z12), oI (0)], [])) (pcal_v2 rfl rfl el_196) ⟨by omega, Nat.le_of_ble_eq_true rfl, Nat.le_of_ble_eq_true rfl, rfl⟩ ?_
            refine nt_run hJ ⟨by omega, by omega⟩ ⟨by omega, by omega⟩ ⟨by omega, by omega⟩ (fun g13 hJ13 n13 f13 x13 y13 a13 => ?_) rfl rfl rfl
            have q13_18 := f13 18 (by decide)
            have q13_19 := f13 19 (by decide)
            have q13_33 := f13 33 (by decide)
            show t_X d 176 46 lv [] g13 P
            refine t_0 qcs_46 rfl (ld_a l0) ?_
            refine t_0 qcs_47 rfl (ld_a l0) ?_
            have r14 := fF_b g13 33
            refine t_0 qcs_48 rfl (pq_gf (y := 33) rfl) ?_
            refine t_0 qcs_51 rfl rfl ?_
            refine t_0 qcs_52 rfl pq_sub ?_
            refine tw_f qcs_53 rfl hJ13 w_33 gf_33 (by decide) ⟨by omega, by omega⟩ (fun g15 hJ15 v15 f15 a15 => ?_)
            replace a15 := fA_2 a15
            have q15_18 := f15 18 (by decide)
            have q15_19 := f15 19 (by decide)
            have q15_32 := f15 32 (by decide)
            show t_X d 176 56 lv [] g15 P
            refine t_1 qcs_56 rfl (pb_goto (pc := 56) (by decide)) ?_
            show t_X d 176 0 lv [] g15 P
            have hb1 := sJ_top hs hw0 (by omega) (by omega)
            have e18 : fF g15 18 = fF g 18 := by omega
            have e32 : fF g15 32 = fF g 32 + 1 := by omega
            have e33 : fF g15 33 = fF g 33 - 1 := by omega
            have e217 : fA g15 217 = fA g 217 := by rw [a15, a13 217 (by decide)]
            refine ih _ _ (by omega) hJ15 ?_ (by omega) (by rw [e217]; exact hv) (by omega) (fun j j1 j2 => ?_) l0 l1
            · unfold sG
              rw [e18, e32, e33, e217]
              exact sJ_close hs hb1 (x := 1048576 * z12 + 0) (by omega) (by omega) (by rw [a15]; exact x13) (fun u hu => by rw [a15]; exact y13 u hu)
            · by_cases q : j = (fF g 33 - 1).toNat
              · subst q
                rw [← hv]
                omega
              · exact hj j (by omega) j2
    · show t_X d 176 8 lv [] g P
      refine t_0 qcs_8 rfl (ld_a l0) ?_
      refine t_3 qcs_9 rfl (ar := ([pvR 196], [])) (pcal_v0 rfl rfl el_196) ⟨by omega, Nat.le_of_ble_eq_true rfl, Nat.le_of_ble_eq_true rfl, rfl⟩ ?_
      refine wt_run hJ ⟨by omega, by omega⟩ (fun _ => sJ_nn hs hw0 (by omega)) (fun z16 hz16 => ?_) rfl
      show t_X d 176 12 lv [oI (z16)] g P
      have b16 : -1 ≤ z16 ∧ z16 ≤ 2147483647 := by
        have := fA_b g 217 (fF g 33 - 1).toNat
        have hn : 1 ≤ fF g 33 → 0 ≤ fA g 217 (fF g 33 - 1).toNat := fun _ => sJ_nn hs hw0 (by omega)
        omega
      refine t_0 qcs_12 rfl (pq_b (by decide)) ?_
      refine tb_le qcs_14 (by decide) ⟨by omega, by omega⟩ ⟨by omega, by omega⟩ (fun c17 => ?_) (fun c17 => ?_)
      · show t_X d 176 37 lv [] g P
        refine t_0 qcs_37 rfl (ld_a l0) ?_
        refine t_0 qcs_38 rfl (ld_a l0) ?_
        refine t_3 qcs_39 rfl (ar := ([pvR 196], [pvR 196])) (pcal_v0 rfl rfl el_196) ⟨by omega, Nat.le_of_ble_eq_true rfl, Nat.le_of_ble_eq_true rfl, rfl⟩ ?_
        refine wt_run hJ ⟨by omega, by omega⟩ (fun _ => sJ_nn hs hw0 (by omega)) (fun z18 hz18 => ?_) rfl
        show t_X d 176 42 lv [oI (z18), pvR 196] g P
        have b18 : -1 ≤ z18 ∧ z18 ≤ 2147483647 := by
          have := fA_b g 217 (fF g 33 - 1).toNat
          have hn : 1 ≤ fF g 33 → 0 ≤ fA g 217 (fF g 33 - 1).toNat := fun _ => sJ_nn hs hw0 (by omega)
          omega
        refine t_0 qcs_42 rfl rfl ?_
        refine t_3 qcs_43 rfl (ar := ([pvR 196, oI (z18), oI (0)], [])) (pcal_v2 rfl rfl el_196) ⟨by omega, Nat.le_of_ble_eq_true rfl, Nat.le_of_ble_eq_true rfl, rfl⟩ ?_
        refine nt_run hJ ⟨by omega, by omega⟩ ⟨by omega, by omega⟩ ⟨by omega, by omega⟩ (fun g19 hJ19 n19 f19 x19 y19 a19 => ?_) rfl rfl rfl
        have q19_18 := f19 18 (by decide)
        have q19_19 := f19 19 (by decide)
        have q19_33 := f19 33 (by decide)
        show t_X d 176 46 lv [] g19 P
        refine t_0 qcs_46 rfl (ld_a l0) ?_
        refine t_0 qcs_47 rfl (ld_a l0) ?_
        have r20 := fF_b g19 33
        refine t_0 qcs_48 rfl (pq_gf (y := 33) rfl) ?_
        refine t_0 qcs_51 rfl rfl ?_
        refine t_0 qcs_52 rfl pq_sub ?_
        refine tw_f qcs_53 rfl hJ19 w_33 gf_33 (by decide) ⟨by omega, by omega⟩ (fun g21 hJ21 v21 f21 a21 => ?_)
        replace a21 := fA_2 a21
        have q21_18 := f21 18 (by decide)
        have q21_19 := f21 19 (by decide)
        have q21_32 := f21 32 (by decide)
        show t_X d 176 56 lv [] g21 P
        refine t_1 qcs_56 rfl (pb_goto (pc := 56) (by decide)) ?_
        show t_X d 176 0 lv [] g21 P
        have hb1 := sJ_top hs hw0 (by omega) (by omega)
        have e18 : fF g21 18 = fF g 18 := by omega
        have e32 : fF g21 32 = fF g 32 + 1 := by omega
        have e33 : fF g21 33 = fF g 33 - 1 := by omega
        have e217 : fA g21 217 = fA g 217 := by rw [a21, a19 217 (by decide)]
        refine ih _ _ (by omega) hJ21 ?_ (by omega) (by rw [e217]; exact hv) (by omega) (fun j j1 j2 => ?_) l0 l1
        · unfold sG
          rw [e18, e32, e33, e217]
          exact sJ_close hs hb1 (x := 1048576 * z18 + 0) (by omega) (by omega) (by rw [a21]; exact x19) (fun u hu => by rw [a21]; exact y19 u hu)
        · by_cases q : j = (fF g 33 - 1).toNat
          · subst q
            rw [← hv]
            omega
          · exact hj j (by omega) j2
      · show t_X d 176 17 lv [] g P
        refine t_0 qcs_17 rfl (ld_i l1) ?_
        refine tz_eq qcs_18 (by decide) ⟨by omega, by omega⟩ (fun c22 => ?_) (fun c22 => ?_)
        · show t_X d 176 59 lv [] g P
          refine t_5 qcs_59 rfl rfl ?_
          exact hP _ hJ hs (by omega) (by omega) hv hw hj (by omega)
        · show t_X d 176 21 lv [] g P
          refine t_0 qcs_21 rfl (ld_a l0) ?_
          refine t_3 qcs_22 rfl (ar := ([pvR 196], [])) (pcal_v0 rfl rfl el_196) ⟨by omega, Nat.le_of_ble_eq_true rfl, Nat.le_of_ble_eq_true rfl, rfl⟩ ?_
          refine wt_run hJ ⟨by omega, by omega⟩ (fun _ => sJ_nn hs hw0 (by omega)) (fun z23 hz23 => ?_) rfl
          show t_X d 176 25 lv [oI (z23)] g P
          have b23 : -1 ≤ z23 ∧ z23 ≤ 2147483647 := by
            have := fA_b g 217 (fF g 33 - 1).toNat
            have hn : 1 ≤ fF g 33 → 0 ≤ fA g 217 (fF g 33 - 1).toNat := fun _ => sJ_nn hs hw0 (by omega)
            omega
          refine t_0 qcs_25 rfl rfl ?_
          refine tb_eq qcs_26 (by decide) ⟨by omega, by omega⟩ ⟨by omega, by omega⟩ (fun c24 => ?_) (fun c24 => ?_)
          · show t_X d 176 37 lv [] g P
            refine t_0 qcs_37 rfl (ld_a l0) ?_
            refine t_0 qcs_38 rfl (ld_a l0) ?_
            refine t_3 qcs_39 rfl (ar := ([pvR 196], [pvR 196])) (pcal_v0 rfl rfl el_196) ⟨by omega, Nat.le_of_ble_eq_true rfl, Nat.le_of_ble_eq_true rfl, rfl⟩ ?_
            refine wt_run hJ ⟨by omega, by omega⟩ (fun _ => sJ_nn hs hw0 (by omega)) (fun z25 hz25 => ?_) rfl
            show t_X d 176 42 lv [oI (z25), pvR 196] g P
            have b25 : -1 ≤ z25 ∧ z25 ≤ 2147483647 := by
              have := fA_b g 217 (fF g 33 - 1).toNat
              have hn : 1 ≤ fF g 33 → 0 ≤ fA g 217 (fF g 33 - 1).toNat := fun _ => sJ_nn hs hw0 (by omega)
              omega
            refine t_0 qcs_42 rfl rfl ?_
            refine t_3 qcs_43 rfl (ar := ([pvR 196, oI (z25), oI (0)], [])) (pcal_v2 rfl rfl el_196) ⟨by omega, Nat.le_of_ble_eq_true rfl, Nat.le_of_ble_eq_true rfl, rfl⟩ ?_
            refine nt_run hJ ⟨by omega, by omega⟩ ⟨by omega, by omega⟩ ⟨by omega, by omega⟩ (fun g26 hJ26 n26 f26 x26 y26 a26 => ?_) rfl rfl rfl
            have q26_18 := f26 18 (by decide)
            have q26_19 := f26 19 (by decide)
            have q26_33 := f26 33 (by decide)
            show t_X d 176 46 lv [] g26 P
            refine t_0 qcs_46 rfl (ld_a l0) ?_
            refine t_0 qcs_47 rfl (ld_a l0) ?_
            have r27 := fF_b g26 33
            refine t_0 qcs_48 rfl (pq_gf (y := 33) rfl) ?_
            refine t_0 qcs_51 rfl rfl ?_
            refine t_0 qcs_52 rfl pq_sub ?_
            refine tw_f qcs_53 rfl hJ26 w_33 gf_33 (by decide) ⟨by omega, by omega⟩ (fun g28 hJ28 v28 f28 a28 => ?_)
            replace a28 := fA_2 a28
            have q28_18 := f28 18 (by decide)
            have q28_19 := f28 19 (by decide)
            have q28_32 := f28 32 (by decide)
            show t_X d 176 56 lv [] g28 P
            refine t_1 qcs_56 rfl (pb_goto (pc := 56) (by decide)) ?_
            show t_X d 176 0 lv [] g28 P
            have hb1 := sJ_top hs hw0 (by omega) (by omega)
            have e18 : fF g28 18 = fF g 18 := by omega
            have e32 : fF g28 32 = fF g 32 + 1 := by omega
            have e33 : fF g28 33 = fF g 33 - 1 := by omega
            have e217 : fA g28 217 = fA g 217 := by rw [a28, a26 217 (by decide)]
            refine ih _ _ (by omega) hJ28 ?_ (by omega) (by rw [e217]; exact hv) (by omega) (fun j j1 j2 => ?_) l0 l1
            · unfold sG
              rw [e18, e32, e33, e217]
              exact sJ_close hs hb1 (x := 1048576 * z25 + 0) (by omega) (by omega) (by rw [a28]; exact x26) (fun u hu => by rw [a28]; exact y26 u hu)
            · by_cases q : j = (fF g 33 - 1).toNat
              · subst q
                rw [← hv]
                omega
              · exact hj j (by omega) j2
          · show t_X d 176 29 lv [] g P
            refine t_0 qcs_29 rfl (ld_a l0) ?_
            refine t_3 qcs_30 rfl (ar := ([pvR 196], [])) (pcal_v0 rfl rfl el_196) ⟨by omega, Nat.le_of_ble_eq_true rfl, Nat.le_of_ble_eq_true rfl, rfl⟩ ?_
            refine wt_run hJ ⟨by omega, by omega⟩ (fun _ => sJ_nn hs hw0 (by omega)) (fun z29 hz29 => ?_) rfl
            show t_X d 176 33 lv [oI (z29)] g P
            have b29 : -1 ≤ z29 ∧ z29 ≤ 2147483647 := by
              have := fA_b g 217 (fF g 33 - 1).toNat
              have hn : 1 ≤ fF g 33 → 0 ≤ fA g 217 (fF g 33 - 1).toNat := fun _ => sJ_nn hs hw0 (by omega)
              omega
            refine t_0 qcs_33 rfl rfl ?_
            refine tb_ne qcs_34 (by decide) ⟨by omega, by omega⟩ ⟨by omega, by omega⟩ (fun c30 => ?_) (fun c30 => ?_)
            · show t_X d 176 59 lv [] g P
              refine t_5 qcs_59 rfl rfl ?_
              exact hP _ hJ hs (by omega) (by omega) hv hw hj (by omega)
            · show t_X d 176 37 lv [] g P
              refine t_0 qcs_37 rfl (ld_a l0) ?_
              refine t_0 qcs_38 rfl (ld_a l0) ?_
              refine t_3 qcs_39 rfl (ar := ([pvR 196], [pvR 196])) (pcal_v0 rfl rfl el_196) ⟨by omega, Nat.le_of_ble_eq_true rfl, Nat.le_of_ble_eq_true rfl, rfl⟩ ?_
              refine wt_run hJ ⟨by omega, by omega⟩ (fun _ => sJ_nn hs hw0 (by omega)) (fun z31 hz31 => ?_) rfl
              show t_X d 176 42 lv [oI (z31), pvR 196] g P
              have b31 : -1 ≤ z31 ∧ z31 ≤ 2147483647 := by
                have := fA_b g 217 (fF g 33 - 1).toNat
                have hn : 1 ≤ fF g 33 → 0 ≤ fA g 217 (fF g 33 - 1).toNat := fun _ => sJ_nn hs hw0 (by omega)
                omega
              refine t_0 qcs_42 rfl rfl ?_
              refine t_3 qcs_43 rfl (ar := ([pvR 196, oI (z31), oI (0)], [])) (pcal_v2 rfl rfl el_196) ⟨by omega, Nat.le_of_ble_eq_true rfl, Nat.le_of_ble_eq_true rfl, rfl⟩ ?_
              refine nt_run hJ ⟨by omega, by omega⟩ ⟨by omega, by omega⟩ ⟨by omega, by omega⟩ (fun g32 hJ32 n32 f32 x32 y32 a32 => ?_) rfl rfl rfl
              have q32_18 := f32 18 (by decide)
              have q32_19 := f32 19 (by decide)
              have q32_33 := f32 33 (by decide)
              show t_X d 176 46 lv [] g32 P
              refine t_0 qcs_46 rfl (ld_a l0) ?_
              refine t_0 qcs_47 rfl (ld_a l0) ?_
              have r33 := fF_b g32 33
              refine t_0 qcs_48 rfl (pq_gf (y := 33) rfl) ?_
              refine t_0 qcs_51 rfl rfl ?_
              refine t_0 qcs_52 rfl pq_sub ?_
              refine tw_f qcs_53 rfl hJ32 w_33 gf_33 (by decide) ⟨by omega, by omega⟩ (fun g34 hJ34 v34 f34 a34 => ?_)
              replace a34 := fA_2 a34
              have q34_18 := f34 18 (by decide)
              have q34_19 := f34 19 (by decide)
              have q34_32 := f34 32 (by decide)
              show t_X d 176 56 lv [] g34 P
              refine t_1 qcs_56 rfl (pb_goto (pc := 56) (by decide)) ?_
              show t_X d 176 0 lv [] g34 P
              have hb1 := sJ_top hs hw0 (by omega) (by omega)
              have e18 : fF g34 18 = fF g 18 := by omega
              have e32 : fF g34 32 = fF g 32 + 1 := by omega
              have e33 : fF g34 33 = fF g 33 - 1 := by omega
              have e217 : fA g34 217 = fA g 217 := by rw [a34, a32 217 (by decide)]
              refine ih _ _ (by omega) hJ34 ?_ (by omega) (by rw [e217]; exact hv) (by omega) (fun j j1 j2 => ?_) l0 l1
              · unfold sG
                rw [e18, e32, e33, e217]
                exact sJ_close hs hb1 (x := 1048576 * z31 + 0) (by omega) (by omega) (by rw [a34]; exact x32) (fun u hu => by rw [a34]; exact y32 u hu)
              · by_cases q : j = (fF g 33 - 1).toNat
                · subst q
                  rw [← hv]
                  omega
                · exact hj j (by omega) j2
set_option maxHeartbeats 8000000 in
theorem rn_loop {d : Nat} (hd : 2 ≤ d) {h0 h : pH} (hh : 0 ≤ fF h 18 ∧ fF h 18 ≤ fF h 19 ∧ fF h 19 ≤ 240) {P : Option pv × pH → Prop} (h1 : ∀ g1 : pH, fF h 18 ≤ fF g1 18 → (48 ≤ hV h ∧ hV h ≤ 57 → fF h 18 < fF g1 18) → fF g1 18 ≤ fF g1 19 → fF g1 19 = fF h 19 → fF g1 32 = fF h 32 → fF g1 33 = fF h 33 → (0 ≤ fF g1 21 ∧ fF g1 21 ≤ 99999) → fA g1 = fA h → J_ Wu h0 g1 → P (some (oI 1), g1)) (h2 : ∀ g1 : pH, J_ Wu h0 g1 → P (some (oI 0), g1)) {f : Int} (hf : f = fF h 18) : ∀ (m : Nat) (g : pH) (lv : List (Nat × pv)), f + 6 - fF g 18 ≤ m → J_ Wu h0 g → ((fF g 18 = f + 0 ∧ 0 ≤ fF g 21 ∧ fF g 21 ≤ 0) ∨ (fF g 18 = f + 1 ∧ 0 ≤ fF g 21 ∧ fF g 21 ≤ 9) ∨ (fF g 18 = f + 2 ∧ 0 ≤ fF g 21 ∧ fF g 21 ≤ 99) ∨ (fF g 18 = f + 3 ∧ 0 ≤ fF g 21 ∧ fF g 21 ≤ 999) ∨ (fF g 18 = f + 4 ∧ 0 ≤ fF g 21 ∧ fF g 21 ≤ 9999) ∨ (fF g 18 = f + 5 ∧ 0 ≤ fF g 21 ∧ fF g 21 ≤ 99999)) → (fF g 18 ≤ fF g 19 ∧ fF g 19 = fF h 19) → fF g 32 = fF h 32 → fF g 33 = fF h 33 → (fF g 18 = f → hV g = hV h) → fA g = fA h → 0 ≤ fF g 18 → px_lg lv 0 = some (pvR 196) → px_lg lv 1 = some (oI f) → t_X d 238 10 lv [] g P := by
  obtain ⟨w_18, w_20, w_21, w_31, w_32, w_33, w_a216, w_a217, z_19⟩ := Wu_f
  intro m
  induction m with
  | zero =>
    intro g lv hm hJ hs hl h32 h33 hq ha hp l0 l1
    omega
  | succ m ih =>
    intro g lv hm hJ hs hl h32 h33 hq ha hp l0 l1
    have hs0 : (0 ≤ fF g 21 ∧ fF g 21 ≤ 99999) ∧ f ≤ fF g 18 ∧ fF g 18 ≤ f + 5 := by omega
    have hsU : Unit → _ := fun _ => hs
    clear hs
    refine t_0 qrn_10 rfl (ld_a l0) ?_
    refine t_3 qrn_11 rfl (ar := ([pvR 196], [])) (pcal_v0 rfl rfl el_196) ⟨by omega, Nat.le_of_ble_eq_true rfl, Nat.le_of_ble_eq_true rfl, rfl⟩ ?_
    have hn1 := hV_n g
    refine di_run (by omega) hJ.1 (by omega) (by omega) (fun t1 => ?_) (fun t1 => ?_) rfl
    · show t_X d 238 14 lv [oI (1)] g P
      refine tz_eq qrn_14 (by decide) ⟨by omega, by omega⟩ (fun c2 => absurd c2 (by omega)) (fun c2 => ?_)
      show t_X d 238 17 lv [] g P
      refine t_0 qrn_17 rfl (ld_a l0) ?_
      have r3 := fF_b g 18
      refine t_0 qrn_18 rfl (pq_gf (y := 18) rfl) ?_
      refine t_0 qrn_21 rfl (ld_i l1) ?_
      refine t_0 qrn_22 rfl rfl ?_
      refine t_0 qrn_23 rfl pq_add ?_
      refine tb_ne qrn_24 (by decide) ⟨by omega, by omega⟩ ⟨by omega, by omega⟩ (fun c4 => ?_) (fun c4 => ?_)
      · show t_X d 238 37 lv [] g P
        refine t_0 qrn_37 rfl (ld_a l0) ?_
        refine t_0 qrn_38 rfl (pq_b (by decide)) ?_
        refine t_0 qrn_40 rfl (ld_a l0) ?_
        have r5 := fF_b g 21
        refine t_0 qrn_41 rfl (pq_gf (y := 21) rfl) ?_
        refine t_0 qrn_44 rfl pq_mul ?_
        refine t_0 qrn_45 rfl (ld_a l0) ?_
        refine t_3 qrn_46 rfl (ar := ([pvR 196], [oI (10 * (fF g 21)), pvR 196])) (pcal_v0 rfl rfl el_196) ⟨by omega, Nat.le_of_ble_eq_true rfl, Nat.le_of_ble_eq_true rfl, rfl⟩ ?_
        refine he_run hJ.1 (by omega) (by omega) ?_ rfl
        have hv6 := hV_b g
        have hn6 := hV_n g
        show t_X d 238 49 lv [oI (hV g), oI (10 * (fF g 21)), pvR 196] g P
        refine t_0 qrn_49 rfl pq_add ?_
        refine t_0 qrn_50 rfl (pq_b (by decide)) ?_
        refine t_0 qrn_52 rfl pq_sub ?_
        refine tw_f qrn_53 rfl hJ w_21 gf_21 (by decide) ⟨by omega, by omega⟩ (fun g7 hJ7 v7 f7 a7 => ?_)
        replace a7 := fA_2 a7
        have q7_18 := f7 18 (by decide)
        have q7_19 := f7 19 (by decide)
        have q7_32 := f7 32 (by decide)
        have q7_33 := f7 33 (by decide)
        show t_X d 238 56 lv [] g7 P
        refine t_0 qrn_56 rfl (ld_a l0) ?_
        refine t_0 qrn_57 rfl (ld_a l0) ?_
        have r8 := fF_b g7 18
        refine t_0 qrn_58 rfl (pq_gf (y := 18) rfl) ?_
        refine t_0 qrn_61 rfl rfl ?_
        refine t_0 qrn_62 rfl pq_add ?_
        refine tw_f qrn_63 rfl hJ7 w_18 gf_18 (by decide) ⟨by omega, by omega⟩ (fun g9 hJ9 v9 f9 a9 => ?_)
        replace a9 := fA_2 a9
        have q9_19 := f9 19 (by decide)
        have q9_32 := f9 32 (by decide)
        have q9_33 := f9 33 (by decide)
        have q9_21 := f9 21 (by decide)
        show t_X d 238 66 lv [] g9 P
        refine t_1 qrn_66 rfl (pb_goto (pc := 66) (by decide)) ?_
        show t_X d 238 10 lv [] g9 P
        have hs9 : (fF g9 18 = f + 0 ∧ 0 ≤ fF g9 21 ∧ fF g9 21 ≤ 0) ∨ (fF g9 18 = f + 1 ∧ 0 ≤ fF g9 21 ∧ fF g9 21 ≤ 9) ∨ (fF g9 18 = f + 2 ∧ 0 ≤ fF g9 21 ∧ fF g9 21 ≤ 99) ∨ (fF g9 18 = f + 3 ∧ 0 ≤ fF g9 21 ∧ fF g9 21 ≤ 999) ∨ (fF g9 18 = f + 4 ∧ 0 ≤ fF g9 21 ∧ fF g9 21 ≤ 9999) ∨ (fF g9 18 = f + 5 ∧ 0 ≤ fF g9 21 ∧ fF g9 21 ≤ 99999) := by
          rcases hsU () with z | z | z | z | z | z
          · exact Or.inr (Or.inl (by omega))
          · exact Or.inr (Or.inr (Or.inl (by omega)))
          · exact Or.inr (Or.inr (Or.inr (Or.inl (by omega))))
          · exact Or.inr (Or.inr (Or.inr (Or.inr (Or.inl (by omega)))))
          · exact Or.inr (Or.inr (Or.inr (Or.inr (Or.inr (by omega)))))
          · omega
        refine ih _ _ (by clear hs9; omega) hJ9 hs9 (by clear hs9; omega) (by clear hs9; omega) (by clear hs9; omega) (by clear hs9; omega) ?_ (by clear hs9; omega) l0 l1
        rw [a9, a7]
        exact ha
      · show t_X d 238 27 lv [] g P
        refine t_0 qrn_27 rfl (ld_a l0) ?_
        refine t_0 qrn_28 rfl rfl ?_
        refine t_0 qrn_29 rfl (ld_a l0) ?_
        have r10 := fF_b g 18
        refine t_0 qrn_30 rfl (pq_gf (y := 18) rfl) ?_
        refine t_3 qrn_33 rfl (ar := ([pvR 196, oI (2), oI (fF g 18)], [])) (pcal_v2 rfl rfl el_196) ⟨by omega, Nat.le_of_ble_eq_true rfl, Nat.le_of_ble_eq_true rfl, rfl⟩ ?_
        refine wr_run hJ w_20 (fun g11 hJ11 f11 a11 => ?_) rfl rfl rfl
        have q11_18 := f11 18 (by decide)
        have q11_19 := f11 19 (by decide)
        have q11_32 := f11 32 (by decide)
        have q11_33 := f11 33 (by decide)
        have q11_21 := f11 21 (by decide)
        show t_X d 238 36 lv [oI (0)] g11 P
        refine t_5 qrn_36 rfl rfl ?_
        exact h2 _ hJ11
    · show t_X d 238 14 lv [oI (0)] g P
      refine tz_eq qrn_14 (by decide) ⟨by omega, by omega⟩ (fun c12 => ?_) (fun c12 => absurd c12 (by omega))
      show t_X d 238 69 lv [] g P
      refine t_0 qrn_69 rfl rfl ?_
      refine t_5 qrn_70 rfl rfl ?_
      exact h1 _ (by omega) (by omega) (by omega) (by omega) (by omega) (by omega) (by omega) ha hJ
set_option maxHeartbeats 4000000 in
theorem rn_run {d : Nat} (hd : 2 ≤ d) {h0 h : pH} (hh : 0 ≤ fF h 18 ∧ fF h 18 ≤ fF h 19 ∧ fF h 19 ≤ 240) {P : Option pv × pH → Prop} (h1 : ∀ g1 : pH, fF h 18 ≤ fF g1 18 → (48 ≤ hV h ∧ hV h ≤ 57 → fF h 18 < fF g1 18) → fF g1 18 ≤ fF g1 19 → fF g1 19 = fF h 19 → fF g1 32 = fF h 32 → fF g1 33 = fF h 33 → (0 ≤ fF g1 21 ∧ fF g1 21 ≤ 99999) → fA g1 = fA h → J_ Wu h0 g1 → P (some (oI 1), g1)) (h2 : ∀ g1 : pH, J_ Wu h0 g1 → P (some (oI 0), g1)) (hJ : J_ Wu h0 h) {lv : List (Nat × pv)} (l0 : px_lg lv 0 = some (pvR 196)) : t_X d 238 0 lv [] h P := by
  obtain ⟨w_18, w_20, w_21, w_31, w_32, w_33, w_a216, w_a217, z_19⟩ := Wu_f
  refine t_0 qrn_0 rfl (ld_a l0) ?_
  have r1 := fF_b h 18
  refine t_0 qrn_1 rfl (pq_gf (y := 18) rfl) ?_
  refine t_2 qrn_4 rfl (w := (px_s1 lv 1 (oI (fF h 18)), [])) rfl ?_
  replace l0 : px_lg (px_s1 lv 1 (oI (fF h 18))) 0 = some (pvR 196) := s1_ne (by decide) (fun _ => rfl) l0
  have l1 : px_lg (px_s1 lv 1 (oI (fF h 18))) 1 = some (oI (fF h 18)) := s1_eq
  generalize px_s1 lv 1 (oI (fF h 18)) = lv2 at l0 l1 ⊢
  show t_X d 238 5 lv2 [] h P
  refine t_0 qrn_5 rfl (ld_a l0) ?_
  refine t_0 qrn_6 rfl rfl ?_
  refine tw_f qrn_7 rfl hJ w_21 gf_21 (by decide) ⟨by omega, by omega⟩ (fun g3 hJ3 v3 f3 a3 => ?_)
  replace a3 := fA_2 a3
  have q3_18 := f3 18 (by decide)
  have q3_19 := f3 19 (by decide)
  have q3_32 := f3 32 (by decide)
  have q3_33 := f3 33 (by decide)
  show t_X d 238 10 lv2 [] g3 P
  exact rn_loop hd hh h1 h2 (f := fF h 18) rfl 6 _ _ (by omega) hJ3 (by omega) (by omega) (by omega) (by omega) (fun _ => hV_e (f3 18 (by decide)) (f3 19 (by decide)) (by rw [a3])) a3 (by omega) l0 l1
set_option maxHeartbeats 8000000 in
theorem rf_loop {d : Nat} (hd : 4 ≤ d) {h0 gs : pH} (hgs : 0 ≤ fF gs 18 ∧ fF gs 19 ≤ 240) {c0 b : Nat} {p0 : Int} {f0 w0 : Nat → Int} (hw0 : ∀ j, j < b → 0 ≤ w0 j ∧ ¬ (2 ≤ w0 j / 1048576 ∧ w0 j / 1048576 ≤ 6)) (hc0 : (c0 : Int) + kW w0 b ≤ p0) {P : Option pv × pH → Prop} (h1 : ∀ g1 : pH, J_ Wu h0 g1 → sG c0 b p0 f0 w0 g1 1 → fF gs 18 < fF g1 18 → fF g1 18 ≤ fF g1 19 → fF g1 19 = fF gs 19 → P (some (oI 1), g1)) (h2 : ∀ g1 : pH, J_ Wu h0 g1 → P (some (oI 0), g1)) : ∀ (m : Nat) (g : pH) (lv : List (Nat × pv)), fF gs 19 + 1 - fF g 18 ≤ m → J_ Wu h0 g → sG c0 b p0 f0 w0 g 0 → (fF gs 18 ≤ fF g 18 ∧ fF g 18 ≤ fF g 19 ∧ fF g 19 = fF gs 19) → px_lg lv 0 = some (pvR 196) → t_X d 236 0 lv [] g P := by
  obtain ⟨w_18, w_20, w_21, w_31, w_32, w_33, w_a216, w_a217, z_19⟩ := Wu_f
  intro m
  induction m with
  | zero =>
    intro g lv hm hJ hs hp l0
    omega
  | succ m ih =>
    intro g lv hm hJ hs hp l0
    have hsc := sJ_c hs hc0
    refine t_0 qrf_0 rfl (ld_a l0) ?_
    refine t_3 qrf_1 rfl (ar := ([pvR 196], [])) (pcal_v0 rfl rfl el_196) ⟨by omega, Nat.le_of_ble_eq_true rfl, Nat.le_of_ble_eq_true rfl, rfl⟩ ?_
    refine he_run hJ.1 (by omega) (by omega) ?_ rfl
    have hv1 := hV_b g
    have hn1 := hV_n g
    show t_X d 236 4 lv [oI (hV g)] g P
    refine t_0 qrf_4 rfl (pq_b (by decide)) ?_
    refine tb_ne qrf_6 (by decide) ⟨by omega, by omega⟩ ⟨by omega, by omega⟩ (fun c2 => ?_) (fun c2 => ?_)
    · show t_X d 236 20 lv [] g P
      refine t_0 qrf_20 rfl (ld_a l0) ?_
      refine t_3 qrf_21 rfl (ar := ([pvR 196], [])) (pcal_v0 rfl rfl el_196) ⟨by omega, Nat.le_of_ble_eq_true rfl, Nat.le_of_ble_eq_true rfl, rfl⟩ ?_
      have hn3 := hV_n g
      refine di_run (by omega) hJ.1 (by omega) (by omega) (fun t3 => ?_) (fun t3 => ?_) rfl
      · show t_X d 236 24 lv [oI (1)] g P
        refine tz_eq qrf_24 (by decide) ⟨by omega, by omega⟩ (fun c4 => absurd c4 (by omega)) (fun c4 => ?_)
        show t_X d 236 27 lv [] g P
        refine t_0 qrf_27 rfl (ld_a l0) ?_
        refine t_3 qrf_28 rfl (ar := ([pvR 196], [])) (pcal_v0 rfl rfl el_196) ⟨by omega, Nat.le_of_ble_eq_true rfl, Nat.le_of_ble_eq_true rfl, rfl⟩ ?_
        refine rn_run (by omega) (h := g) ⟨by omega, by omega, by omega⟩ (fun g5 p5 d5 u5 x5 c5 w5 n5 a5 hJ5 => ?_) (fun g50005 hJ50005 => ?_) hJ rfl
        · show t_X d 236 31 lv [oI (1)] g5 P
          refine tz_ne qrf_31 (by decide) ⟨by omega, by omega⟩ (fun c6 => ?_) (fun c6 => absurd c6 (by omega))
          show t_X d 236 36 lv [] g5 P
          refine t_0 qrf_36 rfl (ld_a l0) ?_
          refine t_0 qrf_37 rfl rfl ?_
          refine t_0 qrf_38 rfl (ld_a l0) ?_
          have r7 := fF_b g5 21
          refine t_0 qrf_39 rfl (pq_gf (y := 21) rfl) ?_
          refine t_3 qrf_42 rfl (ar := ([pvR 196, oI (0), oI (fF g5 21)], [])) (pcal_v2 rfl rfl el_196) ⟨by omega, Nat.le_of_ble_eq_true rfl, Nat.le_of_ble_eq_true rfl, rfl⟩ ?_
          refine nt_run hJ5 ⟨by omega, by omega⟩ ⟨by omega, by omega⟩ ⟨by omega, by omega⟩ (fun g8 hJ8 n8 f8 x8 y8 a8 => ?_) rfl rfl rfl
          have q8_18 := f8 18 (by decide)
          have q8_19 := f8 19 (by decide)
          have q8_33 := f8 33 (by decide)
          show t_X d 236 45 lv [] g8 P
          refine t_0 qrf_45 rfl rfl ?_
          refine t_5 qrf_46 rfl rfl ?_
          refine h1 _ hJ8 ?_ (by omega) (by omega) (by omega)
          have e217 : fA g8 217 = fA g 217 := by rw [a8 217 (by decide), a5]
          have e32 : fF g8 32 = fF g 32 + 1 := by omega
          have e33 : fF g8 33 = fF g 33 := by omega
          unfold sG
          rw [e32, e33, e217]
          exact sJ_num hs (x := 1048576 * 0 + fF g5 21) (by omega) (by omega) (by rw [← c5]; exact x8) (fun u hu => by rw [y8 u (by rw [c5]; exact hu), a5])
        · show t_X d 236 31 lv [oI (0)] g50005 P
          refine tz_ne qrf_31 (by decide) ⟨by omega, by omega⟩ (fun c9 => absurd c9 (by omega)) (fun c9 => ?_)
          show t_X d 236 34 lv [] g50005 P
          refine t_0 qrf_34 rfl rfl ?_
          refine t_5 qrf_35 rfl rfl ?_
          exact h2 _ hJ50005
      · show t_X d 236 24 lv [oI (0)] g P
        refine tz_eq qrf_24 (by decide) ⟨by omega, by omega⟩ (fun c10 => ?_) (fun c10 => absurd c10 (by omega))
        show t_X d 236 47 lv [] g P
        refine t_0 qrf_47 rfl (ld_a l0) ?_
        refine t_3 qrf_48 rfl (ar := ([pvR 196], [])) (pcal_v0 rfl rfl el_196) ⟨by omega, Nat.le_of_ble_eq_true rfl, Nat.le_of_ble_eq_true rfl, rfl⟩ ?_
        refine he_run hJ.1 (by omega) (by omega) ?_ rfl
        have hv11 := hV_b g
        have hn11 := hV_n g
        show t_X d 236 51 lv [oI (hV g)] g P
        refine t_3 qrf_51 rfl (ar := ([oI (hV g)], [])) (pcal_s ⟨Or.inl rfl, rfl, Nat.le_of_ble_eq_true rfl⟩) ⟨by omega, Nat.le_of_ble_eq_true rfl, Nat.le_of_ble_eq_true rfl, rfl⟩ ?_
        refine fo_run ⟨by omega, by omega⟩ (fun z12 hz12 => ?_) rfl
        show t_X d 236 54 lv [oI (z12)] g P
        refine t_2 qrf_54 rfl (w := (px_s1 lv 1 (oI (z12)), [])) rfl ?_
        replace l0 : px_lg (px_s1 lv 1 (oI (z12))) 0 = some (pvR 196) := s1_ne (by decide) (fun _ => rfl) l0
        have l1 : px_lg (px_s1 lv 1 (oI (z12))) 1 = some (oI (z12)) := s1_eq
        generalize px_s1 lv 1 (oI (z12)) = lv13 at l0 l1 ⊢
        show t_X d 236 55 lv13 [] g P
        refine t_0 qrf_55 rfl (ld_i l1) ?_
        refine t_0 qrf_56 rfl rfl ?_
        refine tb_ne qrf_57 (by decide) ⟨by omega, by omega⟩ ⟨by omega, by omega⟩ (fun c14 => ?_) (fun c14 => ?_)
        · show t_X d 236 70 lv13 [] g P
          refine t_0 qrf_70 rfl (ld_a l0) ?_
          refine t_0 qrf_71 rfl rfl ?_
          refine t_0 qrf_72 rfl (ld_i l1) ?_
          refine t_3 qrf_73 rfl (ar := ([pvR 196, oI (1), oI (z12)], [])) (pcal_v2 rfl rfl el_196) ⟨by omega, Nat.le_of_ble_eq_true rfl, Nat.le_of_ble_eq_true rfl, rfl⟩ ?_
          refine nt_run hJ ⟨by omega, by omega⟩ ⟨by omega, by omega⟩ ⟨by omega, by omega⟩ (fun g15 hJ15 n15 f15 x15 y15 a15 => ?_) rfl rfl rfl
          have q15_18 := f15 18 (by decide)
          have q15_19 := f15 19 (by decide)
          have q15_33 := f15 33 (by decide)
          show t_X d 236 76 lv13 [] g15 P
          refine t_0 qrf_76 rfl (ld_a l0) ?_
          refine t_0 qrf_77 rfl (ld_a l0) ?_
          have r16 := fF_b g15 18
          refine t_0 qrf_78 rfl (pq_gf (y := 18) rfl) ?_
          refine t_0 qrf_81 rfl rfl ?_
          refine t_0 qrf_82 rfl pq_add ?_
          refine tw_f qrf_83 rfl hJ15 w_18 gf_18 (by decide) ⟨by omega, by omega⟩ (fun g17 hJ17 v17 f17 a17 => ?_)
          replace a17 := fA_2 a17
          have q17_19 := f17 19 (by decide)
          have q17_32 := f17 32 (by decide)
          have q17_33 := f17 33 (by decide)
          show t_X d 236 86 lv13 [] g17 P
          refine t_0 qrf_86 rfl rfl ?_
          refine t_5 qrf_87 rfl rfl ?_
          refine h1 _ hJ17 ?_ (by omega) (by omega) (by omega)
          have e217 : fA g17 217 = fA g 217 := by rw [a17, a15 217 (by decide)]
          have e32 : fF g17 32 = fF g 32 + 1 := by omega
          have e33 : fF g17 33 = fF g 33 := by omega
          unfold sG
          rw [e32, e33, e217]
          exact sJ_num hs (x := 1048576 * 1 + z12) (by omega) (by omega) (by rw [a17]; exact x15) (fun u hu => by rw [a17]; exact y15 u hu)
        · show t_X d 236 60 lv13 [] g P
          refine t_0 qrf_60 rfl (ld_a l0) ?_
          refine t_0 qrf_61 rfl rfl ?_
          refine t_0 qrf_62 rfl (ld_a l0) ?_
          have r18 := fF_b g 18
          refine t_0 qrf_63 rfl (pq_gf (y := 18) rfl) ?_
          refine t_3 qrf_66 rfl (ar := ([pvR 196, oI (1), oI (fF g 18)], [])) (pcal_v2 rfl rfl el_196) ⟨by omega, Nat.le_of_ble_eq_true rfl, Nat.le_of_ble_eq_true rfl, rfl⟩ ?_
          refine wr_run hJ w_20 (fun g19 hJ19 f19 a19 => ?_) rfl rfl rfl
          have q19_18 := f19 18 (by decide)
          have q19_19 := f19 19 (by decide)
          have q19_32 := f19 32 (by decide)
          have q19_33 := f19 33 (by decide)
          show t_X d 236 69 lv13 [oI (0)] g19 P
          refine t_5 qrf_69 rfl rfl ?_
          exact h2 _ hJ19
    · show t_X d 236 9 lv [] g P
      refine t_0 qrf_9 rfl (ld_a l0) ?_
      refine t_0 qrf_10 rfl (pq_b (by decide)) ?_
      refine t_3 qrf_12 rfl (ar := ([pvR 196, oI (14)], [])) (pcal_v1 rfl rfl el_196) ⟨by omega, Nat.le_of_ble_eq_true rfl, Nat.le_of_ble_eq_true rfl, rfl⟩ ?_
      refine op_run (by omega) hJ ⟨by omega, by omega⟩ ⟨by omega, by omega⟩ (by omega) (fun g20 p20 u20 c20 w20 v20 b20 a20 hJ20 => ?_) (fun g50020 hJ50020 => ?_) rfl rfl
      · show t_X d 236 15 lv [oI (1)] g20 P
        refine tz_ne qrf_15 (by decide) ⟨by omega, by omega⟩ (fun c21 => ?_) (fun c21 => absurd c21 (by omega))
        show t_X d 236 0 lv [] g20 P
        refine ih _ _ (by omega) hJ20 ?_ ⟨by omega, by omega, by omega⟩ l0
        unfold sG
        rw [p20, c20, w20, a20]
        exact sJ_push hs (x := 1048576 * 14) (by omega) v20 b20
      · show t_X d 236 15 lv [oI (0)] g50020 P
        refine tz_ne qrf_15 (by decide) ⟨by omega, by omega⟩ (fun c22 => absurd c22 (by omega)) (fun c22 => ?_)
        show t_X d 236 18 lv [] g50020 P
        refine t_0 qrf_18 rfl rfl ?_
        refine t_5 qrf_19 rfl rfl ?_
        exact h2 _ hJ50020
set_option maxHeartbeats 4000000 in
theorem ho_loop {d : Nat} {g : pH} {b : Nat} (hw : 0 ≤ fF g 33 ∧ fF g 33 ≤ 260) (hn : ∀ j : Nat, b ≤ j → (j : Int) < fF g 33 → 0 ≤ fA g 217 j) {P : Option pv × pH → Prop} (h1 : (∃ j : Nat, b ≤ j ∧ (j : Int) < fF g 33 ∧ fA g 217 j / 1048576 = 14) → P (some (oI 1), g)) (h2 : (∀ j : Nat, b ≤ j → (j : Int) < fF g 33 → fA g 217 j / 1048576 ≠ 14) → P (some (oI 0), g)) (hJ : J_ 0 g g) : ∀ (m k : Nat) (lv : List (Nat × pv)), fF g 33 - k ≤ m → b ≤ k ∧ (k : Int) ≤ 261 → (∀ j : Nat, b ≤ j → j < k → fA g 217 j / 1048576 ≠ 14) → px_lg lv 0 = some (pvR 196) → px_lg lv 2 = some (oI (k : Int)) → t_X d 197 2 lv [] g P := by
  intro m
  induction m with
  | zero =>
    intro k lv hm hk hj l0 l2
    refine t_0 qhs_2 rfl (ld_i l2) ?_
    refine t_0 qhs_3 rfl (ld_a l0) ?_
    have r1 := fF_b g 33
    refine t_0 qhs_4 rfl (pq_gf (y := 33) rfl) ?_
    refine tb_ge qhs_7 (by decide) ⟨by omega, by omega⟩ ⟨by omega, by omega⟩ (fun c2 => ?_) (fun c2 => absurd c2 (by omega))
    show t_X d 197 33 lv [] g P
    refine t_0 qhs_33 rfl rfl ?_
    refine t_5 qhs_34 rfl rfl ?_
    exact h2 (fun j j1 j2 => hj j j1 (by omega))
  | succ m ih =>
    intro k lv hm hk hj l0 l2
    refine t_0 qhs_2 rfl (ld_i l2) ?_
    refine t_0 qhs_3 rfl (ld_a l0) ?_
    have r1 := fF_b g 33
    refine t_0 qhs_4 rfl (pq_gf (y := 33) rfl) ?_
    refine tb_ge qhs_7 (by decide) ⟨by omega, by omega⟩ ⟨by omega, by omega⟩ (fun c2 => ?_) (fun c2 => ?_)
    · show t_X d 197 33 lv [] g P
      refine t_0 qhs_33 rfl rfl ?_
      refine t_5 qhs_34 rfl rfl ?_
      exact h2 (fun j j1 j2 => hj j j1 (by omega))
    · show t_X d 197 10 lv [] g P
      refine t_0 qhs_10 rfl (ld_a l0) ?_
      refine t_0 qhs_11 rfl (ar_37 hJ.1) ?_
      refine t_0 qhs_14 rfl (ld_i l2) ?_
      refine t_0 qhs_15 rfl (pq_ia el_217 rfl ⟨by omega, by omega⟩) ?_
      show t_X d 197 16 lv [oI (fA g 217 k)] g P
      have r3 := fA_b g 217 k
      refine t_0 qhs_16 rfl (pq_cw (n := 1048576) (by decide +kernel)) ?_
      have hk := hn k (by omega) (by omega)
      refine t_0 qhs_19 rfl (pq_div ⟨by omega, by omega⟩ ⟨by omega, by omega⟩) ?_
      refine t_0 qhs_20 rfl (pq_b (by decide)) ?_
      refine tb_ne qhs_22 (by decide) ⟨by omega, by omega⟩ ⟨by omega, by omega⟩ (fun c4 => ?_) (fun c4 => ?_)
      · show t_X d 197 27 lv [] g P
        refine t_2 qhs_27 rfl (w := (px_s1 lv 2 (oI ((k : Int) + 1)), [])) (pq_inc l2 (by decide)) ?_
        replace l0 : px_lg (px_s1 lv 2 (oI ((k : Int) + 1))) 0 = some (pvR 196) := s1_ne (by decide) (fun _ => rfl) l0
        have l2 : px_lg (px_s1 lv 2 (oI ((k : Int) + 1))) 2 = some (oI ((k : Int) + 1)) := s1_eq
        generalize px_s1 lv 2 (oI ((k : Int) + 1)) = lv5 at l0 l2 ⊢
        show t_X d 197 30 lv5 [] g P
        refine t_1 qhs_30 rfl (pb_goto (pc := 30) (by decide)) ?_
        show t_X d 197 2 lv5 [] g P
        exact ih (k + 1) _ (by omega) (by omega) (fun j j1 j2 => by
          by_cases q : j = k
          · subst q; omega
          · exact hj j j1 (by omega)) l0 l2
      · show t_X d 197 25 lv [] g P
        refine t_0 qhs_25 rfl rfl ?_
        refine t_5 qhs_26 rfl rfl ?_
        exact h1 ⟨k, by omega, by omega, by omega⟩
theorem ho_run {d : Nat} {g : pH} {b : Nat} (hw : 0 ≤ fF g 33 ∧ fF g 33 ≤ 260) (hn : ∀ j : Nat, b ≤ j → (j : Int) < fF g 33 → 0 ≤ fA g 217 j) {P : Option pv × pH → Prop} (h1 : (∃ j : Nat, b ≤ j ∧ (j : Int) < fF g 33 ∧ fA g 217 j / 1048576 = 14) → P (some (oI 1), g)) (h2 : (∀ j : Nat, b ≤ j → (j : Int) < fF g 33 → fA g 217 j / 1048576 ≠ 14) → P (some (oI 0), g)) (hG : g_I eG g) (hb : b ≤ 260) {lv : List (Nat × pv)} (l0 : px_lg lv 0 = some (pvR 196)) (l1 : px_lg lv 1 = some (oI (b : Int))) : t_X d 197 0 lv [] g P := by
  refine t_0 qhs_0 rfl (ld_i l1) ?_
  refine t_2 qhs_1 rfl (w := (px_s1 lv 2 (oI ((b : Int))), [])) rfl ?_
  replace l0 : px_lg (px_s1 lv 2 (oI ((b : Int)))) 0 = some (pvR 196) := s1_ne (by decide) (fun _ => rfl) l0
  replace l1 : px_lg (px_s1 lv 2 (oI ((b : Int)))) 1 = some (oI ((b : Int))) := s1_ne (by decide) (fun _ => rfl) l1
  have l2 : px_lg (px_s1 lv 2 (oI ((b : Int)))) 2 = some (oI ((b : Int))) := s1_eq
  generalize px_s1 lv 2 (oI ((b : Int))) = lv1 at l0 l1 l2 ⊢
  show t_X d 197 2 lv1 [] g P
  exact ho_loop hw hn h1 h2 (J_rf hG) 261 b _ (by omega) (by omega) (fun j j1 j2 => absurd j2 (by omega)) l0 l2
set_option maxHeartbeats 16000000 in
theorem sm_loop {d : Nat} (hd : 5 ≤ d) {h0 gs : pH} (hgs : 0 ≤ fF gs 18 ∧ fF gs 19 ≤ 240) {c0 b : Nat} {p0 : Int} {f0 w0 : Nat → Int} (hw0 : ∀ j, j < b → 0 ≤ w0 j ∧ ¬ (2 ≤ w0 j / 1048576 ∧ w0 j / 1048576 ≤ 6)) (hc0 : (c0 : Int) + kW w0 b ≤ p0) (hb260 : b ≤ 260) {P : Option pv × pH → Prop} (h1 : ∀ g1 : pH, J_ Wu h0 g1 → sG c0 b p0 f0 w0 g1 1 → fF g1 33 = (b : Int) → fF gs 18 < fF g1 18 → fF g1 18 ≤ fF g1 19 → fF g1 19 = fF gs 19 → P (some (oI 1), g1)) (h2 : ∀ g1 : pH, J_ Wu h0 g1 → P (some (oI 0), g1)) : ∀ (m : Nat) (g : pH) (lv : List (Nat × pv)), fF gs 19 + 1 - fF g 18 ≤ m → J_ Wu h0 g → sG c0 b p0 f0 w0 g 1 → (fF gs 18 < fF g 18 ∧ fF g 18 ≤ fF g 19 ∧ fF g 19 = fF gs 19) → px_lg lv 0 = some (pvR 196) → px_lg lv 1 = some (oI (b : Int)) → t_X d 241 14 lv [] g P := by
  obtain ⟨w_18, w_20, w_21, w_31, w_32, w_33, w_a216, w_a217, z_19⟩ := Wu_f
  intro m
  induction m with
  | zero =>
    intro g lv hm hJ hs hp l0 l1
    omega
  | succ m ih =>
    intro g lv hm hJ hs hp l0 l1
    have hsc := sJ_c hs hc0
    refine t_0 qsm_14 rfl (ld_a l0) ?_
    refine t_3 qsm_15 rfl (ar := ([pvR 196], [])) (pcal_v0 rfl rfl el_196) ⟨by omega, Nat.le_of_ble_eq_true rfl, Nat.le_of_ble_eq_true rfl, rfl⟩ ?_
    refine he_run hJ.1 (by omega) (by omega) ?_ rfl
    have hv1 := hV_b g
    have hn1 := hV_n g
    show t_X d 241 18 lv [oI (hV g)] g P
    refine t_3 qsm_18 rfl (ar := ([oI (hV g)], [])) (pcal_s ⟨Or.inl rfl, rfl, Nat.le_of_ble_eq_true rfl⟩) ⟨by omega, Nat.le_of_ble_eq_true rfl, Nat.le_of_ble_eq_true rfl, rfl⟩ ?_
    refine ss_run ⟨by omega, by omega⟩ (fun z2 hz2 => ?_) rfl
    show t_X d 241 21 lv [oI (z2)] g P
    refine t_2 qsm_21 rfl (w := (px_s1 lv 2 (oI (z2)), [])) rfl ?_
    replace l0 : px_lg (px_s1 lv 2 (oI (z2))) 0 = some (pvR 196) := s1_ne (by decide) (fun _ => rfl) l0
    replace l1 : px_lg (px_s1 lv 2 (oI (z2))) 1 = some (oI ((b : Int))) := s1_ne (by decide) (fun _ => rfl) l1
    have l2 : px_lg (px_s1 lv 2 (oI (z2))) 2 = some (oI (z2)) := s1_eq
    generalize px_s1 lv 2 (oI (z2)) = lv3 at l0 l1 l2 ⊢
    show t_X d 241 22 lv3 [] g P
    refine t_0 qsm_22 rfl (ld_i l2) ?_
    refine t_0 qsm_23 rfl rfl ?_
    refine tb_eq qsm_24 (by decide) ⟨by omega, by omega⟩ ⟨by omega, by omega⟩ (fun c4 => ?_) (fun c4 => ?_)
    · show t_X d 241 84 lv3 [] g P
      refine t_0 qsm_84 rfl (ld_a l0) ?_
      refine t_3 qsm_85 rfl (ar := ([pvR 196], [])) (pcal_v0 rfl rfl el_196) ⟨by omega, Nat.le_of_ble_eq_true rfl, Nat.le_of_ble_eq_true rfl, rfl⟩ ?_
      refine he_run hJ.1 (by omega) (by omega) ?_ rfl
      have hv5 := hV_b g
      have hn5 := hV_n g
      show t_X d 241 88 lv3 [oI (hV g)] g P
      refine t_0 qsm_88 rfl (pq_b (by decide)) ?_
      refine tb_ne qsm_90 (by decide) ⟨by omega, by omega⟩ ⟨by omega, by omega⟩ (fun c6 => ?_) (fun c6 => ?_)
      · show t_X d 241 139 lv3 [] g P
        refine t_0 qsm_139 rfl (ld_a l0) ?_
        refine t_0 qsm_140 rfl (ld_i l1) ?_
        refine t_3 qsm_141 rfl (ar := ([pvR 196, oI ((b : Int))], [])) (pcal_v1 rfl rfl el_196) ⟨by omega, Nat.le_of_ble_eq_true rfl, Nat.le_of_ble_eq_true rfl, rfl⟩ ?_
        refine ho_run (b := b) ⟨by omega, by omega⟩ (fun j j1 j2 => (hs.2.2.2.1 j j1 j2).1) (fun o7 => ?_) (fun o7 => ?_) hJ.1 (by omega) rfl rfl
        · show t_X d 241 144 lv3 [oI (1)] g P
          refine tz_eq qsm_144 (by decide) ⟨by omega, by omega⟩ (fun c8 => absurd c8 (by omega)) (fun c8 => ?_)
          show t_X d 241 147 lv3 [] g P
          refine t_0 qsm_147 rfl (ld_a l0) ?_
          refine t_0 qsm_148 rfl rfl ?_
          refine t_0 qsm_149 rfl (ld_a l0) ?_
          have r9 := fF_b g 18
          refine t_0 qsm_150 rfl (pq_gf (y := 18) rfl) ?_
          refine t_3 qsm_153 rfl (ar := ([pvR 196, oI (1), oI (fF g 18)], [])) (pcal_v2 rfl rfl el_196) ⟨by omega, Nat.le_of_ble_eq_true rfl, Nat.le_of_ble_eq_true rfl, rfl⟩ ?_
          refine wr_run hJ w_20 (fun g10 hJ10 f10 a10 => ?_) rfl rfl rfl
          have q10_18 := f10 18 (by decide)
          have q10_19 := f10 19 (by decide)
          have q10_32 := f10 32 (by decide)
          have q10_33 := f10 33 (by decide)
          show t_X d 241 156 lv3 [oI (0)] g10 P
          refine t_5 qsm_156 rfl rfl ?_
          exact h2 _ hJ10
        · show t_X d 241 144 lv3 [oI (0)] g P
          refine tz_eq qsm_144 (by decide) ⟨by omega, by omega⟩ (fun c11 => ?_) (fun c11 => absurd c11 (by omega))
          show t_X d 241 157 lv3 [] g P
          refine t_0 qsm_157 rfl (ld_a l0) ?_
          refine t_0 qsm_158 rfl rfl ?_
          refine t_3 qsm_159 rfl (ar := ([pvR 196, oI (1)], [])) (pcal_v1 rfl rfl el_196) ⟨by omega, Nat.le_of_ble_eq_true rfl, Nat.le_of_ble_eq_true rfl, rfl⟩ ?_
          refine cs_loop (by omega) (gs := g) hw0 hc0 (al := 1) (by omega) (fun g12 hJ12 S12 p12 u12 v12 w12 j12 t12 => ?_) 260 _ _ (by omega) hJ hs ⟨by omega, by omega, by omega⟩ rfl (by omega) (fun j j1 j2 => absurd j2 (by omega)) rfl rfl
          have sc12 := sJ_c S12 hc0
          show t_X d 241 162 lv3 [] g12 P
          refine t_0 qsm_162 rfl rfl ?_
          refine t_5 qsm_163 rfl rfl ?_
          have hwb : fF g12 33 = (b : Int) := by
            by_cases q : fF g12 33 = (b : Int)
            · exact q
            · have hb9 := S12.1.2.1
              have h9 := S12.2.2.2.1 (fF g12 33 - 1).toNat (by omega) (by omega)
              have h8 := o7 (fF g12 33 - 1).toNat (by omega) (by omega)
              rw [v12] at h9 t12
              omega
          exact h1 _ hJ12 S12 hwb (by omega) (by omega) (by omega)
      · show t_X d 241 93 lv3 [] g P
        refine t_0 qsm_93 rfl (ld_a l0) ?_
        refine t_0 qsm_94 rfl (ld_i l1) ?_
        refine t_3 qsm_95 rfl (ar := ([pvR 196, oI ((b : Int))], [])) (pcal_v1 rfl rfl el_196) ⟨by omega, Nat.le_of_ble_eq_true rfl, Nat.le_of_ble_eq_true rfl, rfl⟩ ?_
        refine ho_run (b := b) ⟨by omega, by omega⟩ (fun j j1 j2 => (hs.2.2.2.1 j j1 j2).1) (fun o13 => ?_) (fun o13 => ?_) hJ.1 (by omega) rfl rfl
        · show t_X d 241 98 lv3 [oI (1)] g P
          refine tz_eq qsm_98 (by decide) ⟨by omega, by omega⟩ (fun c14 => absurd c14 (by omega)) (fun c14 => ?_)
          show t_X d 241 101 lv3 [] g P
          refine t_0 qsm_101 rfl (ld_a l0) ?_
          refine t_0 qsm_102 rfl rfl ?_
          refine t_3 qsm_103 rfl (ar := ([pvR 196, oI (1)], [])) (pcal_v1 rfl rfl el_196) ⟨by omega, Nat.le_of_ble_eq_true rfl, Nat.le_of_ble_eq_true rfl, rfl⟩ ?_
          refine cs_loop (by omega) (gs := g) hw0 hc0 (al := 1) (by omega) (fun g15 hJ15 S15 p15 u15 v15 w15 j15 t15 => ?_) 260 _ _ (by omega) hJ hs ⟨by omega, by omega, by omega⟩ rfl (by omega) (fun j j1 j2 => absurd j2 (by omega)) rfl rfl
          have sc15 := sJ_c S15 hc0
          show t_X d 241 106 lv3 [] g15 P
          have hop : (b : Int) < fF g15 33 ∧ fA g15 217 (fF g15 33 - 1).toNat / 1048576 = 14 := by
            obtain ⟨j, j1, j2, j3⟩ := o13
            have j4 : (j : Int) < fF g15 33 := by
              by_cases q : (j : Int) < fF g15 33
              · exact q
              · have := j15 j (by omega) j2
                omega
            have h9 := S15.2.2.2.1 (fF g15 33 - 1).toNat (by omega) (by omega)
            omega
          refine t_0 qsm_106 rfl (ld_a l0) ?_
          refine t_0 qsm_107 rfl (ld_a l0) ?_
          have r16 := fF_b g15 33
          refine t_0 qsm_108 rfl (pq_gf (y := 33) rfl) ?_
          refine t_0 qsm_111 rfl rfl ?_
          refine t_0 qsm_112 rfl pq_sub ?_
          refine tw_f qsm_113 rfl hJ15 w_33 gf_33 (by decide) ⟨by omega, by omega⟩ (fun g17 hJ17 v17 f17 a17 => ?_)
          replace a17 := fA_2 a17
          have q17_18 := f17 18 (by decide)
          have q17_19 := f17 19 (by decide)
          have q17_32 := f17 32 (by decide)
          show t_X d 241 116 lv3 [] g17 P
          refine t_0 qsm_116 rfl (ld_a l0) ?_
          refine t_0 qsm_117 rfl (ld_a l0) ?_
          have r18 := fF_b g17 31
          refine t_0 qsm_118 rfl (pq_gf (y := 31) rfl) ?_
          refine t_0 qsm_121 rfl rfl ?_
          refine t_0 qsm_122 rfl pq_sub ?_
          refine tw_fx qsm_123 rfl hJ17 w_31 gf_31 (fun g19 hJ19 f19 a19 => ?_)
          replace a19 := fA_2 a19
          have q19_18 := f19 18 (by decide)
          have q19_19 := f19 19 (by decide)
          have q19_32 := f19 32 (by decide)
          have q19_33 := f19 33 (by decide)
          show t_X d 241 126 lv3 [] g19 P
          refine t_0 qsm_126 rfl (ld_a l0) ?_
          refine t_0 qsm_127 rfl (ld_a l0) ?_
          have r20 := fF_b g19 18
          refine t_0 qsm_128 rfl (pq_gf (y := 18) rfl) ?_
          refine t_0 qsm_131 rfl rfl ?_
          refine t_0 qsm_132 rfl pq_add ?_
          refine tw_f qsm_133 rfl hJ19 w_18 gf_18 (by decide) ⟨by omega, by omega⟩ (fun g21 hJ21 v21 f21 a21 => ?_)
          replace a21 := fA_2 a21
          have q21_19 := f21 19 (by decide)
          have q21_32 := f21 32 (by decide)
          have q21_33 := f21 33 (by decide)
          show t_X d 241 136 lv3 [] g21 P
          have e32 : fF g21 32 = fF g15 32 := by omega
          have e33 : fF g21 33 = fF g15 33 - 1 := by omega
          have ea : fA g21 = fA g15 := by rw [a21, a19, a17]
          have SQ : sG c0 b p0 f0 w0 g21 1 := by
            unfold sG
            rw [e32, e33, ea]
            exact sJ_pop (sJ_p S15 (by omega)) hop.1 hop.2
          refine t_1 qsm_136 rfl (pb_goto (pc := 136) (by decide)) ?_
          show t_X d 241 164 lv3 [] g21 P
          refine t_1 qsm_164 rfl (pb_goto (pc := 164) (by decide)) ?_
          show t_X d 241 14 lv3 [] g21 P
          exact ih _ _ (by omega) hJ21 SQ ⟨by omega, by omega, by omega⟩ l0 l1
        · show t_X d 241 98 lv3 [oI (0)] g P
          refine tz_eq qsm_98 (by decide) ⟨by omega, by omega⟩ (fun c22 => ?_) (fun c22 => absurd c22 (by omega))
          show t_X d 241 139 lv3 [] g P
          refine t_0 qsm_139 rfl (ld_a l0) ?_
          refine t_0 qsm_140 rfl (ld_i l1) ?_
          refine t_3 qsm_141 rfl (ar := ([pvR 196, oI ((b : Int))], [])) (pcal_v1 rfl rfl el_196) ⟨by omega, Nat.le_of_ble_eq_true rfl, Nat.le_of_ble_eq_true rfl, rfl⟩ ?_
          refine ho_run (b := b) ⟨by omega, by omega⟩ (fun j j1 j2 => (hs.2.2.2.1 j j1 j2).1) (fun o23 => ?_) (fun o23 => ?_) hJ.1 (by omega) rfl rfl
          · show t_X d 241 144 lv3 [oI (1)] g P
            refine tz_eq qsm_144 (by decide) ⟨by omega, by omega⟩ (fun c24 => absurd c24 (by omega)) (fun c24 => ?_)
            show t_X d 241 147 lv3 [] g P
            refine t_0 qsm_147 rfl (ld_a l0) ?_
            refine t_0 qsm_148 rfl rfl ?_
            refine t_0 qsm_149 rfl (ld_a l0) ?_
            have r25 := fF_b g 18
            refine t_0 qsm_150 rfl (pq_gf (y := 18) rfl) ?_
            refine t_3 qsm_153 rfl (ar := ([pvR 196, oI (1), oI (fF g 18)], [])) (pcal_v2 rfl rfl el_196) ⟨by omega, Nat.le_of_ble_eq_true rfl, Nat.le_of_ble_eq_true rfl, rfl⟩ ?_
            refine wr_run hJ w_20 (fun g26 hJ26 f26 a26 => ?_) rfl rfl rfl
            have q26_18 := f26 18 (by decide)
            have q26_19 := f26 19 (by decide)
            have q26_32 := f26 32 (by decide)
            have q26_33 := f26 33 (by decide)
            show t_X d 241 156 lv3 [oI (0)] g26 P
            refine t_5 qsm_156 rfl rfl ?_
            exact h2 _ hJ26
          · show t_X d 241 144 lv3 [oI (0)] g P
            refine tz_eq qsm_144 (by decide) ⟨by omega, by omega⟩ (fun c27 => ?_) (fun c27 => absurd c27 (by omega))
            show t_X d 241 157 lv3 [] g P
            refine t_0 qsm_157 rfl (ld_a l0) ?_
            refine t_0 qsm_158 rfl rfl ?_
            refine t_3 qsm_159 rfl (ar := ([pvR 196, oI (1)], [])) (pcal_v1 rfl rfl el_196) ⟨by omega, Nat.le_of_ble_eq_true rfl, Nat.le_of_ble_eq_true rfl, rfl⟩ ?_
            refine cs_loop (by omega) (gs := g) hw0 hc0 (al := 1) (by omega) (fun g28 hJ28 S28 p28 u28 v28 w28 j28 t28 => ?_) 260 _ _ (by omega) hJ hs ⟨by omega, by omega, by omega⟩ rfl (by omega) (fun j j1 j2 => absurd j2 (by omega)) rfl rfl
            have sc28 := sJ_c S28 hc0
            show t_X d 241 162 lv3 [] g28 P
            refine t_0 qsm_162 rfl rfl ?_
            refine t_5 qsm_163 rfl rfl ?_
            have hwb : fF g28 33 = (b : Int) := by
              by_cases q : fF g28 33 = (b : Int)
              · exact q
              · have hb9 := S28.1.2.1
                have h9 := S28.2.2.2.1 (fF g28 33 - 1).toNat (by omega) (by omega)
                have h8 := o23 (fF g28 33 - 1).toNat (by omega) (by omega)
                rw [v28] at h9 t28
                omega
            exact h1 _ hJ28 S28 hwb (by omega) (by omega) (by omega)
    · show t_X d 241 27 lv3 [] g P
      refine t_0 qsm_27 rfl (ld_a l0) ?_
      refine t_0 qsm_28 rfl (ld_i l2) ?_
      refine t_0 qsm_29 rfl rfl ?_
      refine tb_ge qsm_30 (by decide) ⟨by omega, by omega⟩ ⟨by omega, by omega⟩ (fun c29 => ?_) (fun c29 => ?_)
      · show t_X d 241 37 lv3 [pvR 196] g P
        refine t_0 qsm_37 rfl rfl ?_
        refine t_3 qsm_38 rfl (ar := ([pvR 196, oI (0)], [])) (pcal_v1 rfl rfl el_196) ⟨by omega, Nat.le_of_ble_eq_true rfl, Nat.le_of_ble_eq_true rfl, rfl⟩ ?_
        refine cs_loop (by omega) (gs := g) hw0 hc0 (al := 0) (by omega) (fun g30 hJ30 S30 p30 u30 v30 w30 j30 t30 => ?_) 260 _ _ (by omega) hJ hs ⟨by omega, by omega, by omega⟩ rfl (by omega) (fun j j1 j2 => absurd j2 (by omega)) rfl rfl
        have sc30 := sJ_c S30 hc0
        show t_X d 241 41 lv3 [] g30 P
        refine t_0 qsm_41 rfl (ld_a l0) ?_
        refine t_0 qsm_42 rfl (ar_37 hJ30.1) ?_
        refine t_0 qsm_45 rfl (ld_a l0) ?_
        have r31 := fF_b g30 33
        refine t_0 qsm_46 rfl (pq_gf (y := 33) rfl) ?_
        refine t_0 qsm_49 rfl (pq_cw (n := 1048576) (by decide +kernel)) ?_
        refine t_0 qsm_52 rfl (ld_i l2) ?_
        refine t_0 qsm_53 rfl pq_mul ?_
        refine tw_a qsm_54 hJ30 el_217 rfl w_a217 ga_217 (by decide) ⟨by omega, by omega⟩ ⟨by omega, by omega⟩ (fun g32 hJ32 a32 v32 b32 f32 => ?_)
        replace f32 := fF_1 f32
        have q32_18 := congrFun f32 18
        have q32_19 := congrFun f32 19
        have q32_32 := congrFun f32 32
        have q32_33 := congrFun f32 33
        show t_X d 241 55 lv3 [] g32 P
        refine t_0 qsm_55 rfl (ld_a l0) ?_
        refine t_0 qsm_56 rfl (ld_a l0) ?_
        have r33 := fF_b g32 33
        refine t_0 qsm_57 rfl (pq_gf (y := 33) rfl) ?_
        refine t_0 qsm_60 rfl rfl ?_
        refine t_0 qsm_61 rfl pq_add ?_
        refine tw_f qsm_62 rfl hJ32 w_33 gf_33 (by decide) ⟨by omega, by omega⟩ (fun g34 hJ34 v34 f34 a34 => ?_)
        replace a34 := fA_2 a34
        have q34_18 := f34 18 (by decide)
        have q34_19 := f34 19 (by decide)
        have q34_32 := f34 32 (by decide)
        show t_X d 241 65 lv3 [] g34 P
        refine t_0 qsm_65 rfl (ld_a l0) ?_
        refine t_0 qsm_66 rfl (ld_a l0) ?_
        have r35 := fF_b g34 18
        refine t_0 qsm_67 rfl (pq_gf (y := 18) rfl) ?_
        refine t_0 qsm_70 rfl rfl ?_
        refine t_0 qsm_71 rfl pq_add ?_
        refine tw_f qsm_72 rfl hJ34 w_18 gf_18 (by decide) ⟨by omega, by omega⟩ (fun g36 hJ36 v36 f36 a36 => ?_)
        replace a36 := fA_2 a36
        have q36_19 := f36 19 (by decide)
        have q36_32 := f36 32 (by decide)
        have q36_33 := f36 33 (by decide)
        show t_X d 241 75 lv3 [] g36 P
        have e32 : fF g36 32 = fF g30 32 := by omega
        have e33 : fF g36 33 = fF g30 33 + 1 := by omega
        have e18 : fF g36 18 = fF g30 18 + 1 := by omega
        have e216 : fA g36 216 = fA g30 216 := by rw [a36, a34, a32 216 (by decide)]
        have SP : sG c0 b p0 f0 w0 g36 0 := by
          unfold sG
          rw [e18, e32, e33, e216]
          exact sJ_push S30 (x := 1048576 * z2) (by omega) (by rw [a36, a34]; exact v32) (fun u hu => by rw [a36, a34]; exact b32 u hu)
        have scp := sJ_c SP hc0
        refine t_0 qsm_75 rfl (ld_a l0) ?_
        refine t_3 qsm_76 rfl (ar := ([pvR 196], [])) (pcal_v0 rfl rfl el_196) ⟨by omega, Nat.le_of_ble_eq_true rfl, Nat.le_of_ble_eq_true rfl, rfl⟩ ?_
        refine rf_loop (by omega) (gs := g36) ⟨by omega, by omega⟩ hw0 hc0 (fun g37 hJ37 S37 p37 u37 x37 => ?_) (fun g50037 hJ50037 => ?_) 241 _ _ (by omega) hJ36 SP ⟨by omega, by omega, by omega⟩ rfl
        · have sc37 := sJ_c S37 hc0
          show t_X d 241 79 lv3 [oI (1)] g37 P
          refine tz_ne qsm_79 (by decide) ⟨by omega, by omega⟩ (fun c38 => ?_) (fun c38 => absurd c38 (by omega))
          show t_X d 241 164 lv3 [] g37 P
          refine t_1 qsm_164 rfl (pb_goto (pc := 164) (by decide)) ?_
          show t_X d 241 14 lv3 [] g37 P
          exact ih _ _ (by omega) hJ37 S37 ⟨by omega, by omega, by omega⟩ l0 l1
        · show t_X d 241 79 lv3 [oI (0)] g50037 P
          refine tz_ne qsm_79 (by decide) ⟨by omega, by omega⟩ (fun c39 => absurd c39 (by omega)) (fun c39 => ?_)
          show t_X d 241 82 lv3 [] g50037 P
          refine t_0 qsm_82 rfl rfl ?_
          refine t_5 qsm_83 rfl rfl ?_
          exact h2 _ hJ50037
      · show t_X d 241 33 lv3 [pvR 196] g P
        refine t_0 qsm_33 rfl rfl ?_
        refine t_1 qsm_34 rfl (pb_goto (pc := 34) (by decide)) ?_
        show t_X d 241 38 lv3 [oI (1), pvR 196] g P
        refine t_3 qsm_38 rfl (ar := ([pvR 196, oI (1)], [])) (pcal_v1 rfl rfl el_196) ⟨by omega, Nat.le_of_ble_eq_true rfl, Nat.le_of_ble_eq_true rfl, rfl⟩ ?_
        refine cs_loop (by omega) (gs := g) hw0 hc0 (al := 1) (by omega) (fun g40 hJ40 S40 p40 u40 v40 w40 j40 t40 => ?_) 260 _ _ (by omega) hJ hs ⟨by omega, by omega, by omega⟩ rfl (by omega) (fun j j1 j2 => absurd j2 (by omega)) rfl rfl
        have sc40 := sJ_c S40 hc0
        show t_X d 241 41 lv3 [] g40 P
        refine t_0 qsm_41 rfl (ld_a l0) ?_
        refine t_0 qsm_42 rfl (ar_37 hJ40.1) ?_
        refine t_0 qsm_45 rfl (ld_a l0) ?_
        have r41 := fF_b g40 33
        refine t_0 qsm_46 rfl (pq_gf (y := 33) rfl) ?_
        refine t_0 qsm_49 rfl (pq_cw (n := 1048576) (by decide +kernel)) ?_
        refine t_0 qsm_52 rfl (ld_i l2) ?_
        refine t_0 qsm_53 rfl pq_mul ?_
        refine tw_a qsm_54 hJ40 el_217 rfl w_a217 ga_217 (by decide) ⟨by omega, by omega⟩ ⟨by omega, by omega⟩ (fun g42 hJ42 a42 v42 b42 f42 => ?_)
        replace f42 := fF_1 f42
        have q42_18 := congrFun f42 18
        have q42_19 := congrFun f42 19
        have q42_32 := congrFun f42 32
        have q42_33 := congrFun f42 33
        show t_X d 241 55 lv3 [] g42 P
        refine t_0 qsm_55 rfl (ld_a l0) ?_
        refine t_0 qsm_56 rfl (ld_a l0) ?_
        have r43 := fF_b g42 33
        refine t_0 qsm_57 rfl (pq_gf (y := 33) rfl) ?_
        refine t_0 qsm_60 rfl rfl ?_
        refine t_0 qsm_61 rfl pq_add ?_
        refine tw_f qsm_62 rfl hJ42 w_33 gf_33 (by decide) ⟨by omega, by omega⟩ (fun g44 hJ44 v44 f44 a44 => ?_)
        replace a44 := fA_2 a44
        have q44_18 := f44 18 (by decide)
        have q44_19 := f44 19 (by decide)
        have q44_32 := f44 32 (by decide)
        show t_X d 241 65 lv3 [] g44 P
        refine t_0 qsm_65 rfl (ld_a l0) ?_
        refine t_0 qsm_66 rfl (ld_a l0) ?_
        have r45 := fF_b g44 18
        refine t_0 qsm_67 rfl (pq_gf (y := 18) rfl) ?_
        refine t_0 qsm_70 rfl rfl ?_
        refine t_0 qsm_71 rfl pq_add ?_
        refine tw_f qsm_72 rfl hJ44 w_18 gf_18 (by decide) ⟨by omega, by omega⟩ (fun g46 hJ46 v46 f46 a46 => ?_)
        replace a46 := fA_2 a46
        have q46_19 := f46 19 (by decide)
        have q46_32 := f46 32 (by decide)
        have q46_33 := f46 33 (by decide)
        show t_X d 241 75 lv3 [] g46 P
        have e32 : fF g46 32 = fF g40 32 := by omega
        have e33 : fF g46 33 = fF g40 33 + 1 := by omega
        have e18 : fF g46 18 = fF g40 18 + 1 := by omega
        have e216 : fA g46 216 = fA g40 216 := by rw [a46, a44, a42 216 (by decide)]
        have SP : sG c0 b p0 f0 w0 g46 0 := by
          unfold sG
          rw [e18, e32, e33, e216]
          exact sJ_push S40 (x := 1048576 * z2) (by omega) (by rw [a46, a44]; exact v42) (fun u hu => by rw [a46, a44]; exact b42 u hu)
        have scp := sJ_c SP hc0
        refine t_0 qsm_75 rfl (ld_a l0) ?_
        refine t_3 qsm_76 rfl (ar := ([pvR 196], [])) (pcal_v0 rfl rfl el_196) ⟨by omega, Nat.le_of_ble_eq_true rfl, Nat.le_of_ble_eq_true rfl, rfl⟩ ?_
        refine rf_loop (by omega) (gs := g46) ⟨by omega, by omega⟩ hw0 hc0 (fun g47 hJ47 S47 p47 u47 x47 => ?_) (fun g50047 hJ50047 => ?_) 241 _ _ (by omega) hJ46 SP ⟨by omega, by omega, by omega⟩ rfl
        · have sc47 := sJ_c S47 hc0
          show t_X d 241 79 lv3 [oI (1)] g47 P
          refine tz_ne qsm_79 (by decide) ⟨by omega, by omega⟩ (fun c48 => ?_) (fun c48 => absurd c48 (by omega))
          show t_X d 241 164 lv3 [] g47 P
          refine t_1 qsm_164 rfl (pb_goto (pc := 164) (by decide)) ?_
          show t_X d 241 14 lv3 [] g47 P
          exact ih _ _ (by omega) hJ47 S47 ⟨by omega, by omega, by omega⟩ l0 l1
        · show t_X d 241 79 lv3 [oI (0)] g50047 P
          refine tz_ne qsm_79 (by decide) ⟨by omega, by omega⟩ (fun c49 => absurd c49 (by omega)) (fun c49 => ?_)
          show t_X d 241 82 lv3 [] g50047 P
          refine t_0 qsm_82 rfl rfl ?_
          refine t_5 qsm_83 rfl rfl ?_
          exact h2 _ hJ50047
set_option maxHeartbeats 8000000 in
theorem sm_run {d : Nat} (hd : 5 ≤ d) {h0 g : pH} (hJ : J_ Wu h0 g) {c0 b : Nat} (hc : fF g 32 = (c0 : Int)) (hb : fF g 33 = (b : Int)) (hp : (b : Int) ≤ fF g 18 ∧ fF g 18 ≤ fF g 19 ∧ fF g 19 ≤ 240) (hc0 : (c0 : Int) + kW (fA g 217) b ≤ fF g 18) (hw0 : ∀ j, j < b → 0 ≤ fA g 217 j ∧ ¬ (2 ≤ fA g 217 j / 1048576 ∧ fA g 217 j / 1048576 ≤ 6)) {P : Option pv × pH → Prop} (h1 : ∀ g1 : pH, J_ Wu h0 g1 → sG c0 b (fF g 18) (fA g 216) (fA g 217) g1 1 → fF g1 33 = (b : Int) → fF g 18 < fF g1 18 → fF g1 18 ≤ fF g1 19 → fF g1 19 = fF g 19 → P (some (oI 1), g1)) (h2 : ∀ g1 : pH, J_ Wu h0 g1 → P (some (oI 0), g1)) {lv : List (Nat × pv)} (l0 : px_lg lv 0 = some (pvR 196)) : t_X d 241 0 lv [] g P := by
  have S0 : sG c0 b (fF g 18) (fA g 216) (fA g 217) g 0 := by
    unfold sG
    rw [hc, hb]
    exact sJ_st hp.1
  refine t_0 qsm_0 rfl (ld_a l0) ?_
  have r1 := fF_b g 33
  refine t_0 qsm_1 rfl (pq_gf (y := 33) rfl) ?_
  rw [show fF g 33 = (b : Int) from hb]
  show t_X d 241 4 lv [oI ((b : Int))] g P
  refine t_2 qsm_4 rfl (w := (px_s1 lv 1 (oI ((b : Int))), [])) rfl ?_
  replace l0 : px_lg (px_s1 lv 1 (oI ((b : Int)))) 0 = some (pvR 196) := s1_ne (by decide) (fun _ => rfl) l0
  have l1 : px_lg (px_s1 lv 1 (oI ((b : Int)))) 1 = some (oI ((b : Int))) := s1_eq
  generalize px_s1 lv 1 (oI ((b : Int))) = lv2 at l0 l1 ⊢
  show t_X d 241 5 lv2 [] g P
  refine t_0 qsm_5 rfl (ld_a l0) ?_
  refine t_3 qsm_6 rfl (ar := ([pvR 196], [])) (pcal_v0 rfl rfl el_196) ⟨by omega, Nat.le_of_ble_eq_true rfl, Nat.le_of_ble_eq_true rfl, rfl⟩ ?_
  refine rf_loop (by omega) (gs := g) ⟨by omega, by omega⟩ hw0 hc0 (fun g3 hJ3 S3 p3 u3 x3 => ?_) (fun g50003 hJ50003 => ?_) 241 _ _ (by omega) hJ S0 ⟨by omega, by omega, by omega⟩ rfl
  · have sc3 := sJ_c S3 hc0
    show t_X d 241 9 lv2 [oI (1)] g3 P
    refine tz_ne qsm_9 (by decide) ⟨by omega, by omega⟩ (fun c4 => ?_) (fun c4 => absurd c4 (by omega))
    show t_X d 241 14 lv2 [] g3 P
    exact sm_loop hd (gs := g) ⟨by omega, by omega⟩ hw0 hc0 (by omega) h1 h2 241 _ _ (by omega) hJ3 S3 ⟨by omega, by omega, by omega⟩ l0 l1
  · show t_X d 241 9 lv2 [oI (0)] g50003 P
    refine tz_ne qsm_9 (by decide) ⟨by omega, by omega⟩ (fun c5 => absurd c5 (by omega)) (fun c5 => ?_)
    show t_X d 241 12 lv2 [] g50003 P
    refine t_0 qsm_12 rfl rfl ?_
    refine t_5 qsm_13 rfl rfl ?_
    exact h2 _ hJ50003
