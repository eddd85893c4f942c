/-! reference: the law's text, exactly: small methods (printed by wip/e2/v5.py) -/
theorem jdi_0 : xe_look (xc 203) 0 = some (.aload_n 0, 1, 0, 0, 0) := by decide +kernel
theorem jdi_1 : xe_look (xc 203) 1 = some (.invokevirtual 252, 3, 0, 198, 1137) := by decide +kernel
theorem jdi_4 : xe_look (xc 203) 4 = some (.bipush 48, 2, 0, 0, 0) := by decide +kernel
theorem jdi_6 : xe_look (xc 203) 6 = some (.if_icmp .lt 16, 3, 0, 0, 0) := by decide +kernel
theorem jdi_9 : xe_look (xc 203) 9 = some (.aload_n 0, 1, 0, 0, 0) := by decide +kernel
theorem jdi_10 : xe_look (xc 203) 10 = some (.invokevirtual 252, 3, 0, 198, 1137) := by decide +kernel
theorem jdi_13 : xe_look (xc 203) 13 = some (.bipush 57, 2, 0, 0, 0) := by decide +kernel
theorem jdi_15 : xe_look (xc 203) 15 = some (.if_icmp .gt 7, 3, 0, 0, 0) := by decide +kernel
theorem jdi_18 : xe_look (xc 203) 18 = some (.iconst 1, 1, 0, 0, 0) := by decide +kernel
theorem jdi_19 : xe_look (xc 203) 19 = some (.goto 4, 3, 0, 0, 0) := by decide +kernel
theorem jdi_22 : xe_look (xc 203) 22 = some (.iconst 0, 1, 0, 0, 0) := by decide +kernel
theorem jdi_23 : xe_look (xc 203) 23 = some (.ireturn, 1, 0, 0, 0) := by decide +kernel
theorem jju_0 : xe_look (xc 208) 0 = some (.aload_n 0, 1, 0, 0, 0) := by decide +kernel
theorem jju_1 : xe_look (xc 208) 1 = some (.getfield 71, 3, 12, 37, 1189) := by decide +kernel
theorem jju_4 : xe_look (xc 208) 4 = some (.aload_n 0, 1, 0, 0, 0) := by decide +kernel
theorem jju_5 : xe_look (xc 208) 5 = some (.getfield 303, 3, 12, 33, 1146) := by decide +kernel
theorem jju_8 : xe_look (xc 208) 8 = some (.ldc_w 299, 3, 0, 2148532224, 1151) := by decide +kernel
theorem jju_11 : xe_look (xc 208) 11 = some (.iload_n 1, 1, 0, 0, 0) := by decide +kernel
theorem jju_12 : xe_look (xc 208) 12 = some (.imul, 1, 0, 0, 0) := by decide +kernel
theorem jju_13 : xe_look (xc 208) 13 = some (.aload_n 0, 1, 0, 0, 0) := by decide +kernel
theorem jju_14 : xe_look (xc 208) 14 = some (.getfield 296, 3, 12, 32, 1222) := by decide +kernel
theorem jju_17 : xe_look (xc 208) 17 = some (.iadd, 1, 0, 0, 0) := by decide +kernel
theorem jju_18 : xe_look (xc 208) 18 = some (.iastore, 1, 0, 0, 0) := by decide +kernel
theorem jju_19 : xe_look (xc 208) 19 = some (.aload_n 0, 1, 0, 0, 0) := by decide +kernel
theorem jju_20 : xe_look (xc 208) 20 = some (.aload_n 0, 1, 0, 0, 0) := by decide +kernel
theorem jju_21 : xe_look (xc 208) 21 = some (.getfield 303, 3, 12, 33, 1146) := by decide +kernel
theorem jju_24 : xe_look (xc 208) 24 = some (.iconst 1, 1, 0, 0, 0) := by decide +kernel
theorem jju_25 : xe_look (xc 208) 25 = some (.iadd, 1, 0, 0, 0) := by decide +kernel
theorem jju_26 : xe_look (xc 208) 26 = some (.putfield 303, 3, 12, 33, 1146) := by decide +kernel
theorem jju_29 : xe_look (xc 208) 29 = some (.aload_n 0, 1, 0, 0, 0) := by decide +kernel
theorem jju_30 : xe_look (xc 208) 30 = some (.iload_n 1, 1, 0, 0, 0) := by decide +kernel
theorem jju_31 : xe_look (xc 208) 31 = some (.iconst 0, 1, 0, 0, 0) := by decide +kernel
theorem jju_32 : xe_look (xc 208) 32 = some (.invokevirtual 309, 3, 0, 223, 1145) := by decide +kernel
theorem jju_35 : xe_look (xc 208) 35 = some (.aload_n 0, 1, 0, 0, 0) := by decide +kernel
theorem jju_36 : xe_look (xc 208) 36 = some (.aload_n 0, 1, 0, 0, 0) := by decide +kernel
theorem jju_37 : xe_look (xc 208) 37 = some (.getfield 242, 3, 12, 18, 1135) := by decide +kernel
theorem jju_40 : xe_look (xc 208) 40 = some (.iconst 1, 1, 0, 0, 0) := by decide +kernel
theorem jju_41 : xe_look (xc 208) 41 = some (.iadd, 1, 0, 0, 0) := by decide +kernel
theorem jju_42 : xe_look (xc 208) 42 = some (.putfield 242, 3, 12, 18, 1135) := by decide +kernel
theorem jju_45 : xe_look (xc 208) 45 = some (.return_, 1, 0, 0, 0) := by decide +kernel
theorem jno_0 : xe_look (xc 223) 0 = some (.aload_n 0, 1, 0, 0, 0) := by decide +kernel
theorem jno_1 : xe_look (xc 223) 1 = some (.getfield 68, 3, 12, 36, 1194) := by decide +kernel
theorem jno_4 : xe_look (xc 223) 4 = some (.aload_n 0, 1, 0, 0, 0) := by decide +kernel
theorem jno_5 : xe_look (xc 223) 5 = some (.getfield 296, 3, 12, 32, 1222) := by decide +kernel
theorem jno_8 : xe_look (xc 223) 8 = some (.ldc_w 299, 3, 0, 2148532224, 1151) := by decide +kernel
theorem jno_11 : xe_look (xc 223) 11 = some (.iload_n 1, 1, 0, 0, 0) := by decide +kernel
theorem jno_12 : xe_look (xc 223) 12 = some (.imul, 1, 0, 0, 0) := by decide +kernel
theorem jno_13 : xe_look (xc 223) 13 = some (.iload_n 2, 1, 0, 0, 0) := by decide +kernel
theorem jno_14 : xe_look (xc 223) 14 = some (.iadd, 1, 0, 0, 0) := by decide +kernel
theorem jno_15 : xe_look (xc 223) 15 = some (.iastore, 1, 0, 0, 0) := by decide +kernel
theorem jno_16 : xe_look (xc 223) 16 = some (.aload_n 0, 1, 0, 0, 0) := by decide +kernel
theorem jno_17 : xe_look (xc 223) 17 = some (.aload_n 0, 1, 0, 0, 0) := by decide +kernel
theorem jno_18 : xe_look (xc 223) 18 = some (.getfield 296, 3, 12, 32, 1222) := by decide +kernel
theorem jno_21 : xe_look (xc 223) 21 = some (.iconst 1, 1, 0, 0, 0) := by decide +kernel
theorem jno_22 : xe_look (xc 223) 22 = some (.iadd, 1, 0, 0, 0) := by decide +kernel
theorem jno_23 : xe_look (xc 223) 23 = some (.putfield 296, 3, 12, 32, 1222) := by decide +kernel
theorem jno_26 : xe_look (xc 223) 26 = some (.return_, 1, 0, 0, 0) := by decide +kernel
theorem jop_0 : xe_look (xc 229) 0 = some (.aload_n 0, 1, 0, 0, 0) := by decide +kernel
theorem jop_1 : xe_look (xc 229) 1 = some (.getfield 300, 3, 12, 31, 1170) := by decide +kernel
theorem jop_4 : xe_look (xc 229) 4 = some (.bipush 6, 2, 0, 0, 0) := by decide +kernel
theorem jop_6 : xe_look (xc 229) 6 = some (.if_icmp .ne 13, 3, 0, 0, 0) := by decide +kernel
theorem jop_9 : xe_look (xc 229) 9 = some (.aload_n 0, 1, 0, 0, 0) := by decide +kernel
theorem jop_10 : xe_look (xc 229) 10 = some (.iconst 5, 1, 0, 0, 0) := by decide +kernel
theorem jop_11 : xe_look (xc 229) 11 = some (.aload_n 0, 1, 0, 0, 0) := by decide +kernel
theorem jop_12 : xe_look (xc 229) 12 = some (.getfield 242, 3, 12, 18, 1135) := by decide +kernel
theorem jop_15 : xe_look (xc 229) 15 = some (.invokevirtual 256, 3, 0, 274, 1138) := by decide +kernel
theorem jop_18 : xe_look (xc 229) 18 = some (.ireturn, 1, 0, 0, 0) := by decide +kernel
theorem jop_19 : xe_look (xc 229) 19 = some (.aload_n 0, 1, 0, 0, 0) := by decide +kernel
theorem jop_20 : xe_look (xc 229) 20 = some (.aload_n 0, 1, 0, 0, 0) := by decide +kernel
theorem jop_21 : xe_look (xc 229) 21 = some (.getfield 300, 3, 12, 31, 1170) := by decide +kernel
theorem jop_24 : xe_look (xc 229) 24 = some (.iconst 1, 1, 0, 0, 0) := by decide +kernel
theorem jop_25 : xe_look (xc 229) 25 = some (.iadd, 1, 0, 0, 0) := by decide +kernel
theorem jop_26 : xe_look (xc 229) 26 = some (.putfield 300, 3, 12, 31, 1170) := by decide +kernel
theorem jop_29 : xe_look (xc 229) 29 = some (.aload_n 0, 1, 0, 0, 0) := by decide +kernel
theorem jop_30 : xe_look (xc 229) 30 = some (.getfield 71, 3, 12, 37, 1189) := by decide +kernel
theorem jop_33 : xe_look (xc 229) 33 = some (.aload_n 0, 1, 0, 0, 0) := by decide +kernel
theorem jop_34 : xe_look (xc 229) 34 = some (.getfield 303, 3, 12, 33, 1146) := by decide +kernel
theorem jop_37 : xe_look (xc 229) 37 = some (.ldc_w 299, 3, 0, 2148532224, 1151) := by decide +kernel
theorem jop_40 : xe_look (xc 229) 40 = some (.iload_n 1, 1, 0, 0, 0) := by decide +kernel
theorem jop_41 : xe_look (xc 229) 41 = some (.imul, 1, 0, 0, 0) := by decide +kernel
theorem jop_42 : xe_look (xc 229) 42 = some (.iastore, 1, 0, 0, 0) := by decide +kernel
theorem jop_43 : xe_look (xc 229) 43 = some (.aload_n 0, 1, 0, 0, 0) := by decide +kernel
theorem jop_44 : xe_look (xc 229) 44 = some (.aload_n 0, 1, 0, 0, 0) := by decide +kernel
theorem jop_45 : xe_look (xc 229) 45 = some (.getfield 303, 3, 12, 33, 1146) := by decide +kernel
theorem jop_48 : xe_look (xc 229) 48 = some (.iconst 1, 1, 0, 0, 0) := by decide +kernel
theorem jop_49 : xe_look (xc 229) 49 = some (.iadd, 1, 0, 0, 0) := by decide +kernel
theorem jop_50 : xe_look (xc 229) 50 = some (.putfield 303, 3, 12, 33, 1146) := by decide +kernel
theorem jop_53 : xe_look (xc 229) 53 = some (.aload_n 0, 1, 0, 0, 0) := by decide +kernel
theorem jop_54 : xe_look (xc 229) 54 = some (.aload_n 0, 1, 0, 0, 0) := by decide +kernel
theorem jop_55 : xe_look (xc 229) 55 = some (.getfield 242, 3, 12, 18, 1135) := by decide +kernel
theorem jop_58 : xe_look (xc 229) 58 = some (.iconst 1, 1, 0, 0, 0) := by decide +kernel
theorem jop_59 : xe_look (xc 229) 59 = some (.iadd, 1, 0, 0, 0) := by decide +kernel
theorem jop_60 : xe_look (xc 229) 60 = some (.putfield 242, 3, 12, 18, 1135) := by decide +kernel
theorem jop_63 : xe_look (xc 229) 63 = some (.iconst 1, 1, 0, 0, 0) := by decide +kernel
theorem jop_64 : xe_look (xc 229) 64 = some (.ireturn, 1, 0, 0, 0) := by decide +kernel
theorem jrn_0 : xe_look (xc 238) 0 = some (.aload_n 0, 1, 0, 0, 0) := by decide +kernel
theorem jrn_1 : xe_look (xc 238) 1 = some (.getfield 242, 3, 12, 18, 1135) := by decide +kernel
theorem jrn_4 : xe_look (xc 238) 4 = some (.istore_n 1, 1, 0, 0, 0) := by decide +kernel
theorem jrn_5 : xe_look (xc 238) 5 = some (.aload_n 0, 1, 0, 0, 0) := by decide +kernel
theorem jrn_6 : xe_look (xc 238) 6 = some (.iconst 0, 1, 0, 0, 0) := by decide +kernel
theorem jrn_7 : xe_look (xc 238) 7 = some (.putfield 245, 3, 12, 21, 1263) := by decide +kernel
theorem jrn_10 : xe_look (xc 238) 10 = some (.aload_n 0, 1, 0, 0, 0) := by decide +kernel
theorem jrn_11 : xe_look (xc 238) 11 = some (.invokevirtual 248, 3, 0, 203, 1136) := by decide +kernel
theorem jrn_14 : xe_look (xc 238) 14 = some (.ifCond .eq 55, 3, 0, 0, 0) := by decide +kernel
theorem jrn_17 : xe_look (xc 238) 17 = some (.aload_n 0, 1, 0, 0, 0) := by decide +kernel
theorem jrn_18 : xe_look (xc 238) 18 = some (.getfield 242, 3, 12, 18, 1135) := by decide +kernel
theorem jrn_21 : xe_look (xc 238) 21 = some (.iload_n 1, 1, 0, 0, 0) := by decide +kernel
theorem jrn_22 : xe_look (xc 238) 22 = some (.iconst 5, 1, 0, 0, 0) := by decide +kernel
theorem jrn_23 : xe_look (xc 238) 23 = some (.iadd, 1, 0, 0, 0) := by decide +kernel
theorem jrn_24 : xe_look (xc 238) 24 = some (.if_icmp .ne 13, 3, 0, 0, 0) := by decide +kernel
theorem jrn_27 : xe_look (xc 238) 27 = some (.aload_n 0, 1, 0, 0, 0) := by decide +kernel
theorem jrn_28 : xe_look (xc 238) 28 = some (.iconst 2, 1, 0, 0, 0) := by decide +kernel
theorem jrn_29 : xe_look (xc 238) 29 = some (.aload_n 0, 1, 0, 0, 0) := by decide +kernel
theorem jrn_30 : xe_look (xc 238) 30 = some (.getfield 242, 3, 12, 18, 1135) := by decide +kernel
theorem jrn_33 : xe_look (xc 238) 33 = some (.invokevirtual 256, 3, 0, 274, 1138) := by decide +kernel
theorem jrn_36 : xe_look (xc 238) 36 = some (.ireturn, 1, 0, 0, 0) := by decide +kernel
theorem jrn_37 : xe_look (xc 238) 37 = some (.aload_n 0, 1, 0, 0, 0) := by decide +kernel
theorem jrn_38 : xe_look (xc 238) 38 = some (.bipush 10, 2, 0, 0, 0) := by decide +kernel
theorem jrn_40 : xe_look (xc 238) 40 = some (.aload_n 0, 1, 0, 0, 0) := by decide +kernel
theorem jrn_41 : xe_look (xc 238) 41 = some (.getfield 245, 3, 12, 21, 1263) := by decide +kernel
theorem jrn_44 : xe_look (xc 238) 44 = some (.imul, 1, 0, 0, 0) := by decide +kernel
theorem jrn_45 : xe_look (xc 238) 45 = some (.aload_n 0, 1, 0, 0, 0) := by decide +kernel
theorem jrn_46 : xe_look (xc 238) 46 = some (.invokevirtual 252, 3, 0, 198, 1137) := by decide +kernel
theorem jrn_49 : xe_look (xc 238) 49 = some (.iadd, 1, 0, 0, 0) := by decide +kernel
theorem jrn_50 : xe_look (xc 238) 50 = some (.bipush 48, 2, 0, 0, 0) := by decide +kernel
theorem jrn_52 : xe_look (xc 238) 52 = some (.isub, 1, 0, 0, 0) := by decide +kernel
theorem jrn_53 : xe_look (xc 238) 53 = some (.putfield 245, 3, 12, 21, 1263) := by decide +kernel
theorem jrn_56 : xe_look (xc 238) 56 = some (.aload_n 0, 1, 0, 0, 0) := by decide +kernel
theorem jrn_57 : xe_look (xc 238) 57 = some (.aload_n 0, 1, 0, 0, 0) := by decide +kernel
theorem jrn_58 : xe_look (xc 238) 58 = some (.getfield 242, 3, 12, 18, 1135) := by decide +kernel
theorem jrn_61 : xe_look (xc 238) 61 = some (.iconst 1, 1, 0, 0, 0) := by decide +kernel
theorem jrn_62 : xe_look (xc 238) 62 = some (.iadd, 1, 0, 0, 0) := by decide +kernel
theorem jrn_63 : xe_look (xc 238) 63 = some (.putfield 242, 3, 12, 18, 1135) := by decide +kernel
theorem jrn_66 : xe_look (xc 238) 66 = some (.goto (-56), 3, 0, 0, 0) := by decide +kernel
theorem jrn_69 : xe_look (xc 238) 69 = some (.iconst 1, 1, 0, 0, 0) := by decide +kernel
theorem jrn_70 : xe_look (xc 238) 70 = some (.ireturn, 1, 0, 0, 0) := by decide +kernel
theorem jsg_0 : xe_look (xc 256) 0 = some (.iload_n 0, 1, 0, 0, 0) := by decide +kernel
theorem jsg_1 : xe_look (xc 256) 1 = some (.bipush 43, 2, 0, 0, 0) := by decide +kernel
theorem jsg_3 : xe_look (xc 256) 3 = some (.if_icmp .ne 7, 3, 0, 0, 0) := by decide +kernel
theorem jsg_6 : xe_look (xc 256) 6 = some (.iconst 2, 1, 0, 0, 0) := by decide +kernel
theorem jsg_7 : xe_look (xc 256) 7 = some (.goto 45, 3, 0, 0, 0) := by decide +kernel
theorem jsg_10 : xe_look (xc 256) 10 = some (.iload_n 0, 1, 0, 0, 0) := by decide +kernel
theorem jsg_11 : xe_look (xc 256) 11 = some (.bipush 45, 2, 0, 0, 0) := by decide +kernel
theorem jsg_13 : xe_look (xc 256) 13 = some (.if_icmp .ne 7, 3, 0, 0, 0) := by decide +kernel
theorem jsg_16 : xe_look (xc 256) 16 = some (.iconst 3, 1, 0, 0, 0) := by decide +kernel
theorem jsg_17 : xe_look (xc 256) 17 = some (.goto 35, 3, 0, 0, 0) := by decide +kernel
theorem jsg_20 : xe_look (xc 256) 20 = some (.iload_n 0, 1, 0, 0, 0) := by decide +kernel
theorem jsg_21 : xe_look (xc 256) 21 = some (.bipush 42, 2, 0, 0, 0) := by decide +kernel
theorem jsg_23 : xe_look (xc 256) 23 = some (.if_icmp .ne 7, 3, 0, 0, 0) := by decide +kernel
theorem jsg_26 : xe_look (xc 256) 26 = some (.iconst 4, 1, 0, 0, 0) := by decide +kernel
theorem jsg_27 : xe_look (xc 256) 27 = some (.goto 25, 3, 0, 0, 0) := by decide +kernel
theorem jsg_30 : xe_look (xc 256) 30 = some (.iload_n 0, 1, 0, 0, 0) := by decide +kernel
theorem jsg_31 : xe_look (xc 256) 31 = some (.bipush 47, 2, 0, 0, 0) := by decide +kernel
theorem jsg_33 : xe_look (xc 256) 33 = some (.if_icmp .ne 7, 3, 0, 0, 0) := by decide +kernel
theorem jsg_36 : xe_look (xc 256) 36 = some (.iconst 5, 1, 0, 0, 0) := by decide +kernel
theorem jsg_37 : xe_look (xc 256) 37 = some (.goto 15, 3, 0, 0, 0) := by decide +kernel
theorem jsg_40 : xe_look (xc 256) 40 = some (.iload_n 0, 1, 0, 0, 0) := by decide +kernel
theorem jsg_41 : xe_look (xc 256) 41 = some (.bipush 37, 2, 0, 0, 0) := by decide +kernel
theorem jsg_43 : xe_look (xc 256) 43 = some (.if_icmp .ne 8, 3, 0, 0, 0) := by decide +kernel
theorem jsg_46 : xe_look (xc 256) 46 = some (.bipush 6, 2, 0, 0, 0) := by decide +kernel
theorem jsg_48 : xe_look (xc 256) 48 = some (.goto 4, 3, 0, 0, 0) := by decide +kernel
theorem jsg_51 : xe_look (xc 256) 51 = some (.iconst (-1), 1, 0, 0, 0) := by decide +kernel
theorem jsg_52 : xe_look (xc 256) 52 = some (.ireturn, 1, 0, 0, 0) := by decide +kernel
theorem jwr_0 : xe_look (xc 274) 0 = some (.aload_n 0, 1, 0, 0, 0) := by decide +kernel
theorem jwr_1 : xe_look (xc 274) 1 = some (.sipush (-1000), 3, 0, 0, 0) := by decide +kernel
theorem jwr_4 : xe_look (xc 274) 4 = some (.iload_n 1, 1, 0, 0, 0) := by decide +kernel
theorem jwr_5 : xe_look (xc 274) 5 = some (.imul, 1, 0, 0, 0) := by decide +kernel
theorem jwr_6 : xe_look (xc 274) 6 = some (.iload_n 2, 1, 0, 0, 0) := by decide +kernel
theorem jwr_7 : xe_look (xc 274) 7 = some (.isub, 1, 0, 0, 0) := by decide +kernel
theorem jwr_8 : xe_look (xc 274) 8 = some (.putfield 286, 3, 12, 20, 1233) := by decide +kernel
theorem jwr_11 : xe_look (xc 274) 11 = some (.iconst 0, 1, 0, 0, 0) := by decide +kernel
theorem jwr_12 : xe_look (xc 274) 12 = some (.ireturn, 1, 0, 0, 0) := by decide +kernel
theorem jwt_0 : xe_look (xc 272) 0 = some (.aload_n 0, 1, 0, 0, 0) := by decide +kernel
theorem jwt_1 : xe_look (xc 272) 1 = some (.getfield 303, 3, 12, 33, 1146) := by decide +kernel
theorem jwt_4 : xe_look (xc 272) 4 = some (.ifCond .ne 7, 3, 0, 0, 0) := by decide +kernel
theorem jwt_7 : xe_look (xc 272) 7 = some (.iconst (-1), 1, 0, 0, 0) := by decide +kernel
theorem jwt_8 : xe_look (xc 272) 8 = some (.goto 18, 3, 0, 0, 0) := by decide +kernel
theorem jwt_11 : xe_look (xc 272) 11 = some (.aload_n 0, 1, 0, 0, 0) := by decide +kernel
theorem jwt_12 : xe_look (xc 272) 12 = some (.getfield 71, 3, 12, 37, 1189) := by decide +kernel
theorem jwt_15 : xe_look (xc 272) 15 = some (.aload_n 0, 1, 0, 0, 0) := by decide +kernel
theorem jwt_16 : xe_look (xc 272) 16 = some (.getfield 303, 3, 12, 33, 1146) := by decide +kernel
theorem jwt_19 : xe_look (xc 272) 19 = some (.iconst 1, 1, 0, 0, 0) := by decide +kernel
theorem jwt_20 : xe_look (xc 272) 20 = some (.isub, 1, 0, 0, 0) := by decide +kernel
theorem jwt_21 : xe_look (xc 272) 21 = some (.iaload, 1, 0, 0, 0) := by decide +kernel
theorem jwt_22 : xe_look (xc 272) 22 = some (.ldc_w 299, 3, 0, 2148532224, 1151) := by decide +kernel
theorem jwt_25 : xe_look (xc 272) 25 = some (.idiv, 1, 0, 0, 0) := by decide +kernel
theorem jwt_26 : xe_look (xc 272) 26 = some (.ireturn, 1, 0, 0, 0) := by decide +kernel
def jW : Nat := 2 ^ (cn 196 + 18) + 2 ^ (cn 196 + 32) + 2 ^ (cn 196 + 33) + 2 ^ (cn 196 + 31) + 2 ^ (cn 196 + 20) + 2 ^ (cn 196 + 21) + 2 ^ cn 216 + 2 ^ cn 217
def jqk : List (Nat × Nat) := [(196, 18), (196, 32), (196, 33), (196, 31), (196, 20), (196, 21)]
def jqa : List Nat := [216, 217]
/-- place, codes, what waits, open ones, fault, number; the codes, what waits -/
abbrev jS (g0 g : pH) (p k w op ft u : Int) (sa wa : tC) : Prop := sE jqk jqa jW g0 g [p, k, w, op, ft, u] [sa, wa]
def jB (g0 : pH) (B : tC) (n : Int) : Prop := cF g0 196 19 = n ∧ tpR B (fA g0 211) ∧ 0 ≤ n ∧ n ≤ 240
def jFt (g0 g : pH) (f : Int) : Prop := ∃ (p k w op u : Int) (sa wa : tC), jS g0 g p k w op f u sa wa
def lSg (c : Int) : Int := if lS2 c = -1 then lT3 c else lS2 c
theorem lSg_b (c : Int) : (lSg c = -1 ∧ lS2 c = -1 ∧ lT3 c = -1) ∨ (2 ≤ lSg c ∧ lSg c ≤ 3 ∧ lS2 c = lSg c ∧ lT3 c = -1) ∨ (4 ≤ lSg c ∧ lSg c ≤ 6 ∧ lT3 c = lSg c ∧ lS2 c = -1) := by
  have h1 := lS2_b c
  have h2 := lT3_b c
  unfold lSg
  by_cases h : lS2 c = -1
  · rw [if_pos h]
    omega
  · rw [if_neg h]
    unfold lT3
    repeat' split
    all_goals omega
theorem jeo_196 : eL[196]? = some (0, 12) := by decide +kernel
theorem jgu_216 : eG (cn 216) = ((-2147483648), 2147483647, []) := by decide +kernel
theorem jgu_217 : eG (cn 217) = ((-2147483648), 2147483647, []) := by decide +kernel
theorem jgy_196_18 : eG (cn 196 + 18) = ((-2147483648), 2147483647, []) := by decide +kernel
theorem jgy_196_20 : eG (cn 196 + 20) = ((-2147483648), 2147483647, []) := by decide +kernel
theorem jgy_196_21 : eG (cn 196 + 21) = ((-2147483648), 2147483647, []) := by decide +kernel
theorem jgy_196_31 : eG (cn 196 + 31) = ((-2147483648), 2147483647, []) := by decide +kernel
theorem jgy_196_32 : eG (cn 196 + 32) = ((-2147483648), 2147483647, []) := by decide +kernel
theorem jgy_196_33 : eG (cn 196 + 33) = ((-2147483648), 2147483647, []) := by decide +kernel
theorem wn_jW_196_19 : jW.testBit (cn 196 + 19) = false := by decide +kernel
theorem wm_jW_211 : jW.testBit (cn 211) = false := by decide +kernel
theorem jch_196_36 : (eG (cn 196 + 36)).2.2 = [217] := by decide +kernel
theorem jcq_196_36 {d i : Nat} {lv : List (Nat × pv)} {r : List pv} {g : pH} (hG : g_I eG g) : px_push eL d none (.getfield i) 12 36 lv (pvR 196 :: r) g = some (pvR 216 :: r) := pget jeo_196 (gI_r (r := 216) hG jeo_196 (Nat.le_of_ble_eq_true rfl) (y := 36) rfl jch_196_36)
theorem jch_196_37 : (eG (cn 196 + 37)).2.2 = [218] := by decide +kernel
theorem jcq_196_37 {d i : Nat} {lv : List (Nat × pv)} {r : List pv} {g : pH} (hG : g_I eG g) : px_push eL d none (.getfield i) 12 37 lv (pvR 196 :: r) g = some (pvR 217 :: r) := pget jeo_196 (gI_r (r := 217) hG jeo_196 (Nat.le_of_ble_eq_true rfl) (y := 37) rfl jch_196_37)
theorem jez_216 : eL[216]? = some (1, 260) := by decide +kernel
theorem jez_217 : eL[217]? = some (1, 260) := by decide +kernel
theorem wt_jW_196_18 : jW.testBit (cn 196 + 18) = true := by decide +kernel
theorem wt_jW_196_20 : jW.testBit (cn 196 + 20) = true := by decide +kernel
theorem wt_jW_196_21 : jW.testBit (cn 196 + 21) = true := by decide +kernel
theorem wt_jW_196_31 : jW.testBit (cn 196 + 31) = true := by decide +kernel
theorem wt_jW_196_32 : jW.testBit (cn 196 + 32) = true := by decide +kernel
theorem wt_jW_196_33 : jW.testBit (cn 196 + 33) = true := by decide +kernel
theorem wu_jW_216 : jW.testBit (cn 216) = true := by decide +kernel
theorem wu_jW_217 : jW.testBit (cn 217) = true := by decide +kernel
theorem je_l {g0 g : pH} {B : tC} {n p k w op ft u : Int} {sa wa : tC} (hB : jB g0 B n) (h : jS g0 g p k w op ft u sa wa) : cF g 196 19 = n := (cF_M (S_J h).2 wn_jW_196_19).trans hB.1
theorem jn_m (x : Int) : (Int32.ofInt x &&& Int32.ofInt 255).toInt = x % 256 := by
  have e : (Int32.ofInt x &&& Int32.ofInt 255).toBitVec = BitVec.ofInt 32 x &&& 255#32 := rfl
  have h1 : (BitVec.ofInt 32 x &&& 255#32).toNat = (BitVec.ofInt 32 x).toNat % 256 := by
    rw [BitVec.toNat_and]
    exact Nat.and_two_pow_sub_one_eq_mod (n := 8) _
  have h2 : (Int32.ofInt x &&& Int32.ofInt 255).toInt = ((BitVec.ofInt 32 x &&& 255#32).toNat : Int) := by
    show (Int32.ofInt x &&& Int32.ofInt 255).toBitVec.toInt = _
    rw [e, BitVec.toInt_eq_toNat_of_lt (by rw [h1]; omega)]
  rw [h2, h1, BitVec.toNat_ofInt]
  omega
theorem jV_t {g : pH} {B : tC} {n p : Int} (h1 : fF g 18 = p) (h2 : fF g 19 = n) (h3 : tpR B (fA g 211)) (hn : n ≤ 260) (hp : 0 ≤ p) : hV g = tH B n p := by
  unfold hV tH
  rw [h1, h2]
  by_cases q : p < n
  · rw [if_pos q, if_pos q, jn_m]
    exact (h3 p.toNat (by omega)).1.symm
  · rw [if_neg q, if_neg q]
theorem jp_b {B f : tC} (h : tpR B f) : ∀ j, j < 260 → 0 ≤ B j ∧ B j ≤ 255 := fun j hj => by
  have := (h j hj).1
  omega
theorem jh_run {d : Nat} {g0 g : pH} {B : tC} {n : Int} (hB : jB g0 B n) {p k w op ft u : Int} {sa wa : tC} (hS : jS g0 g p k w op ft u sa wa) (hp : 0 ≤ p) {P : Option pv × pH → Prop} (hP : P (some (oI (tH B n p)), g)) {lv : List (Nat × pv)} (l0 : px_lg lv 0 = some (pvR 196)) : t_X d 198 0 lv [] g P := by
  have e1 : fF g 18 = p := S_f hS 0 (Nat.le_of_ble_eq_true rfl)
  have e2 : fF g 19 = n := je_l hB hS
  refine he_run (S_J hS).1 (by omega) (by have := hB.2.2.2; omega) ?_ l0
  rw [jV_t e1 e2 (by rw [fA_M (S_J hS).2 wm_jW_211]; exact hB.2.1) (by have := hB.2.2.2; omega) hp]
  exact hP
theorem jd_run {d : Nat} (hd : 1 ≤ d) {g0 g : pH} {B : tC} {n : Int} (hB : jB g0 B n) {p k w op ft u : Int} {sa wa : tC} (hS : jS g0 g p k w op ft u sa wa) (hp : 0 ≤ p) {P : Option pv × pH → Prop} (h1 : tDg (tH B n p) → P (some (oI 1), g)) (h2 : ¬ tDg (tH B n p) → P (some (oI 0), g)) {lv : List (Nat × pv)} (l0 : px_lg lv 0 = some (pvR 196)) : t_X d 203 0 lv [] g P := by
  have hn0 := hB.2.2.1
  have hn1 := hB.2.2.2
  have hH : ∀ q, 0 ≤ q → -1 ≤ tH B n q ∧ tH B n q ≤ 255 := fun q hq => tH_b (jp_b hB.2.1) (by omega) hq
  refine t_0 jdi_0 rfl (ld_a l0) ?_
  refine t_3 jdi_1 rfl (ar := ([pvR 196], [])) (pcal_w (as := []) rfl rfl rfl jeo_196) ⟨by omega, Nat.le_of_ble_eq_true rfl, Nat.le_of_ble_eq_true rfl, rfl⟩ ?_
  refine jh_run hB hS (by omega) ?_ rfl
  have b1 := hH p (by omega)
  have z1 := tH_n (B := B) (n := n) (p := p)
  show t_X d 203 4 lv [oI (tH B n p)] g P
  refine t_0 jdi_4 rfl (pq_b (by decide)) ?_
  refine tb_lt jdi_6 (by decide) ⟨by omega, by omega⟩ ⟨by omega, by omega⟩ (fun c2 => ?_) (fun c2 => ?_)
  · show t_X d 203 22 lv [] g P
    refine t_0 jdi_22 rfl rfl ?_
    refine t_5 jdi_23 rfl rfl ?_
    exact h2 (fun z => by unfold tDg at z; omega)
  · show t_X d 203 9 lv [] g P
    refine t_0 jdi_9 rfl (ld_a l0) ?_
    refine t_3 jdi_10 rfl (ar := ([pvR 196], [])) (pcal_w (as := []) rfl rfl rfl jeo_196) ⟨by omega, Nat.le_of_ble_eq_true rfl, Nat.le_of_ble_eq_true rfl, rfl⟩ ?_
    refine jh_run hB hS (by omega) ?_ rfl
    show t_X d 203 13 lv [oI (tH B n p)] g P
    refine t_0 jdi_13 rfl (pq_b (by decide)) ?_
    refine tb_gt jdi_15 (by decide) ⟨by omega, by omega⟩ ⟨by omega, by omega⟩ (fun c3 => ?_) (fun c3 => ?_)
    · show t_X d 203 22 lv [] g P
      refine t_0 jdi_22 rfl rfl ?_
      refine t_5 jdi_23 rfl rfl ?_
      exact h2 (fun z => by unfold tDg at z; omega)
    · show t_X d 203 18 lv [] g P
      refine t_0 jdi_18 rfl rfl ?_
      refine t_1 jdi_19 rfl (pb_goto (pc := 19) (by decide)) ?_
      show t_X d 203 23 lv [oI 1] g P
      refine t_5 jdi_23 rfl rfl ?_
      exact h1 ⟨by omega, by omega⟩
theorem jw_run {d : Nat} {g0 g : pH} {B : tC} {n : Int} (hB : jB g0 B n) {p k w op ft u : Int} {sa wa : tC} (hS : jS g0 g p k w op ft u sa wa) {a b : Int} (ha : 1 ≤ a ∧ a ≤ 6) (hb : 0 ≤ b ∧ b ≤ 1000) {P : Option pv × pH → Prop} (hP : ∀ g1 : pH, jS g0 g1 p k w op (-1000 * a - b) u sa wa → P (some (oI 0), g1)) {lv : List (Nat × pv)} (l0 : px_lg lv 0 = some (pvR 196)) (l1 : px_lg lv 1 = some (oI a)) (l2 : px_lg lv 2 = some (oI b)) : t_X d 274 0 lv [] g P := by
  have hn0 := hB.2.2.1
  have hn1 := hB.2.2.2
  have hH : ∀ q, 0 ≤ q → -1 ≤ tH B n q ∧ tH B n q ≤ 255 := fun q hq => tH_b (jp_b hB.2.1) (by omega) hq
  refine t_0 jwr_0 rfl (ld_a l0) ?_
  refine t_0 jwr_1 rfl (pq_s (by decide)) ?_
  refine t_0 jwr_4 rfl (ld_i l1) ?_
  refine t_0 jwr_5 rfl pq_mul ?_
  refine t_0 jwr_6 rfl (ld_i l2) ?_
  refine t_0 jwr_7 rfl pq_sub ?_
  refine ts_f (n := 4) rfl rfl (by decide) jwr_8 rfl jeo_196 hS wt_jW_196_20 jgy_196_20 (by decide) ⟨by omega, by omega⟩ (fun g1 hS1 => ?_)
  replace hS1 : jS g0 g1 p k w op ((-1000 * a) - b) u sa wa := hS1
  show t_X d 274 11 lv [] g1 P
  refine t_0 jwr_11 rfl rfl ?_
  refine t_5 jwr_12 rfl rfl ?_
  exact hP _ hS1
theorem jno_run {d : Nat} {g0 g : pH} {B : tC} {n : Int} (hB : jB g0 B n) {p k w op ft u : Int} {sa wa : tC} (hS : jS g0 g p k w op ft u sa wa) {a b : Int} (ha : 0 ≤ a ∧ a ≤ 14) (hb : 0 ≤ b ∧ b ≤ 100000) (hk : 0 ≤ k ∧ k ≤ 259) {P : Option pv × pH → Prop} (hP : ∀ g1 : pH, jS g0 g1 p (k + 1) w op ft u (updI sa k.toNat (1048576 * a + b)) wa → P (none, g1)) {lv : List (Nat × pv)} (l0 : px_lg lv 0 = some (pvR 196)) (l1 : px_lg lv 1 = some (oI a)) (l2 : px_lg lv 2 = some (oI b)) : t_X d 223 0 lv [] g P := by
  have hn0 := hB.2.2.1
  have hn1 := hB.2.2.2
  have hH : ∀ q, 0 ≤ q → -1 ≤ tH B n q ∧ tH B n q ≤ 255 := fun q hq => tH_b (jp_b hB.2.1) (by omega) hq
  refine t_0 jno_0 rfl (ld_a l0) ?_
  refine t_0 jno_1 rfl (jcq_196_36 (S_J hS).1) ?_
  show t_X d 223 4 lv [pvR 216] g P
  refine t_0 jno_4 rfl (ld_a l0) ?_
  refine t_0 jno_5 rfl (pq_cv jeo_196 rfl (show cF g 196 32 = k from S_f hS 1 (Nat.le_of_ble_eq_true rfl))) ?_
  show t_X d 223 8 lv [oI (k), pvR 216] g P
  refine t_0 jno_8 rfl (pq_cw (n := 1048576) (by decide +kernel)) ?_
  refine t_0 jno_11 rfl (ld_i l1) ?_
  refine t_0 jno_12 rfl pq_mul ?_
  refine t_0 jno_13 rfl (ld_i l2) ?_
  refine t_0 jno_14 rfl pq_add ?_
  refine ts_a (n := 0) rfl rfl (by decide) jno_15 hS jez_216 rfl wu_jW_216 jgu_216 (by decide) ⟨by omega, by omega⟩ ⟨by omega, by omega⟩ (fun g1 hS1 => ?_)
  replace hS1 : jS g0 g1 p k w op ft u (updI sa k.toNat ((1048576 * a) + b)) wa := hS1
  show t_X d 223 16 lv [] g1 P
  refine t_0 jno_16 rfl (ld_a l0) ?_
  refine t_0 jno_17 rfl (ld_a l0) ?_
  refine t_0 jno_18 rfl (pq_cv jeo_196 rfl (show cF g1 196 32 = k from S_f hS1 1 (Nat.le_of_ble_eq_true rfl))) ?_
  show t_X d 223 21 lv [oI (k), pvR 196] g1 P
  refine t_0 jno_21 rfl rfl ?_
  refine t_0 jno_22 rfl pq_add ?_
  refine ts_f (n := 1) rfl rfl (by decide) jno_23 rfl jeo_196 hS1 wt_jW_196_32 jgy_196_32 (by decide) ⟨by omega, by omega⟩ (fun g2 hS2 => ?_)
  replace hS2 : jS g0 g2 p (k + 1) w op ft u (updI sa k.toNat ((1048576 * a) + b)) wa := hS2
  show t_X d 223 26 lv [] g2 P
  refine t_5 jno_26 rfl rfl ?_
  exact hP _ hS2
theorem jt0_run {d : Nat} {g0 g : pH} {B : tC} {n : Int} (hB : jB g0 B n) {p k op ft u : Int} {sa wa : tC} (hS : jS g0 g p k 0 op ft u sa wa) {P : Option pv × pH → Prop} (hP : P (some (oI (-1)), g)) {lv : List (Nat × pv)} (l0 : px_lg lv 0 = some (pvR 196)) : t_X d 272 0 lv [] g P := by
  have hn0 := hB.2.2.1
  have hn1 := hB.2.2.2
  have hH : ∀ q, 0 ≤ q → -1 ≤ tH B n q ∧ tH B n q ≤ 255 := fun q hq => tH_b (jp_b hB.2.1) (by omega) hq
  refine t_0 jwt_0 rfl (ld_a l0) ?_
  refine t_0 jwt_1 rfl (pq_cv jeo_196 rfl (show cF g 196 33 = 0 from S_f hS 2 (Nat.le_of_ble_eq_true rfl))) ?_
  show t_X d 272 4 lv [oI 0] g P
  refine tz_ne jwt_4 (by decide) ⟨by omega, by omega⟩ (fun c1 => absurd c1 (by omega)) (fun c1 => ?_)
  show t_X d 272 7 lv [] g P
  refine t_0 jwt_7 rfl rfl ?_
  refine t_1 jwt_8 rfl (pb_goto (pc := 8) (by decide)) ?_
  show t_X d 272 26 lv [oI (-1)] g P
  refine t_5 jwt_26 rfl rfl ?_
  exact hP
theorem jt1_run {d : Nat} {g0 g : pH} {B : tC} {n : Int} (hB : jB g0 B n) {p k w op ft u : Int} {sa wa : tC} (hS : jS g0 g p k w op ft u sa wa) (hw : 1 ≤ w ∧ w ≤ 260) {q y : Int} (hq : wa (w - 1).toNat = 1048576 * q + y) (hy : 0 ≤ q ∧ q ≤ 14 ∧ 0 ≤ y ∧ y ≤ 1000) {P : Option pv × pH → Prop} (hP : P (some (oI q), g)) {lv : List (Nat × pv)} (l0 : px_lg lv 0 = some (pvR 196)) : t_X d 272 0 lv [] g P := by
  have hn0 := hB.2.2.1
  have hn1 := hB.2.2.2
  have hH : ∀ q, 0 ≤ q → -1 ≤ tH B n q ∧ tH B n q ≤ 255 := fun q hq => tH_b (jp_b hB.2.1) (by omega) hq
  refine t_0 jwt_0 rfl (ld_a l0) ?_
  refine t_0 jwt_1 rfl (pq_cv jeo_196 rfl (show cF g 196 33 = w from S_f hS 2 (Nat.le_of_ble_eq_true rfl))) ?_
  show t_X d 272 4 lv [oI (w)] g P
  refine tz_ne jwt_4 (by decide) ⟨by omega, by omega⟩ (fun c1 => ?_) (fun c1 => absurd c1 (by omega))
  show t_X d 272 11 lv [] g P
  refine t_0 jwt_11 rfl (ld_a l0) ?_
  refine t_0 jwt_12 rfl (jcq_196_37 (S_J hS).1) ?_
  show t_X d 272 15 lv [pvR 217] g P
  refine t_0 jwt_15 rfl (ld_a l0) ?_
  refine t_0 jwt_16 rfl (pq_cv jeo_196 rfl (show cF g 196 33 = w from S_f hS 2 (Nat.le_of_ble_eq_true rfl))) ?_
  show t_X d 272 19 lv [oI (w), pvR 217] g P
  refine t_0 jwt_19 rfl rfl ?_
  refine t_0 jwt_20 rfl pq_sub ?_
  have x2 : wa (w - 1).toNat = 1048576 * q + y := hq
  refine t_0 jwt_21 rfl (pq_iv jez_217 rfl ⟨by omega, by omega⟩ (show fA g 217 = wa from S_a hS 1 (Nat.le_of_ble_eq_true rfl))) ?_
  rw [x2]
  show t_X d 272 22 lv [oI (1048576 * q + y)] g P
  refine t_0 jwt_22 rfl (pq_cw (n := 1048576) (by decide +kernel)) ?_
  refine t_0 jwt_25 rfl (pq_div ⟨by omega, by omega⟩ ⟨by omega, by omega⟩) ?_
  refine t_5 jwt_26 rfl rfl ?_
  rw [show (1048576 * q + y) / 1048576 = q by omega]
  exact hP
theorem jop_run {d : Nat} (hd : 1 ≤ d) {g0 g : pH} {B : tC} {n : Int} (hB : jB g0 B n) {p k w op ft u : Int} {sa wa : tC} (hS : jS g0 g p k w op ft u sa wa) (hp : 0 ≤ p ∧ p < n) {a : Int} (ha : 10 ≤ a ∧ a ≤ 14) (ho : 0 ≤ op ∧ op ≤ 6) (hw : 0 ≤ w ∧ w ≤ 259) {P : Option pv × pH → Prop} (h1 : op < 6 → ∀ g1 : pH, jS g0 g1 (p + 1) k (w + 1) (op + 1) ft u sa (updI wa w.toNat (1048576 * a)) → P (some (oI 1), g1)) (h0 : op = 6 → ∀ g1 : pH, jS g0 g1 p k w op (-5000 - p) u sa wa → P (some (oI 0), g1)) {lv : List (Nat × pv)} (l0 : px_lg lv 0 = some (pvR 196)) (l1 : px_lg lv 1 = some (oI a)) : t_X d 229 0 lv [] g P := by
  have hn0 := hB.2.2.1
  have hn1 := hB.2.2.2
  have hH : ∀ q, 0 ≤ q → -1 ≤ tH B n q ∧ tH B n q ≤ 255 := fun q hq => tH_b (jp_b hB.2.1) (by omega) hq
  refine t_0 jop_0 rfl (ld_a l0) ?_
  refine t_0 jop_1 rfl (pq_cv jeo_196 rfl (show cF g 196 31 = op from S_f hS 3 (Nat.le_of_ble_eq_true rfl))) ?_
  show t_X d 229 4 lv [oI (op)] g P
  refine t_0 jop_4 rfl (pq_b (by decide)) ?_
  refine tb_ne jop_6 (by decide) ⟨by omega, by omega⟩ ⟨by omega, by omega⟩ (fun c1 => ?_) (fun c1 => ?_)
  · show t_X d 229 19 lv [] g P
    refine t_0 jop_19 rfl (ld_a l0) ?_
    refine t_0 jop_20 rfl (ld_a l0) ?_
    refine t_0 jop_21 rfl (pq_cv jeo_196 rfl (show cF g 196 31 = op from S_f hS 3 (Nat.le_of_ble_eq_true rfl))) ?_
    show t_X d 229 24 lv [oI (op), pvR 196] g P
    refine t_0 jop_24 rfl rfl ?_
    refine t_0 jop_25 rfl pq_add ?_
    refine ts_f (n := 3) rfl rfl (by decide) jop_26 rfl jeo_196 hS wt_jW_196_31 jgy_196_31 (by decide) ⟨by omega, by omega⟩ (fun g2 hS2 => ?_)
    replace hS2 : jS g0 g2 p k w (op + 1) ft u sa wa := hS2
    show t_X d 229 29 lv [] g2 P
    refine t_0 jop_29 rfl (ld_a l0) ?_
    refine t_0 jop_30 rfl (jcq_196_37 (S_J hS2).1) ?_
    show t_X d 229 33 lv [pvR 217] g2 P
    refine t_0 jop_33 rfl (ld_a l0) ?_
    refine t_0 jop_34 rfl (pq_cv jeo_196 rfl (show cF g2 196 33 = w from S_f hS2 2 (Nat.le_of_ble_eq_true rfl))) ?_
    show t_X d 229 37 lv [oI (w), pvR 217] g2 P
    refine t_0 jop_37 rfl (pq_cw (n := 1048576) (by decide +kernel)) ?_
    refine t_0 jop_40 rfl (ld_i l1) ?_
    refine t_0 jop_41 rfl pq_mul ?_
    refine ts_a (n := 1) rfl rfl (by decide) jop_42 hS2 jez_217 rfl wu_jW_217 jgu_217 (by decide) ⟨by omega, by omega⟩ ⟨by omega, by omega⟩ (fun g3 hS3 => ?_)
    replace hS3 : jS g0 g3 p k w (op + 1) ft u sa (updI wa w.toNat (1048576 * a)) := hS3
    show t_X d 229 43 lv [] g3 P
    refine t_0 jop_43 rfl (ld_a l0) ?_
    refine t_0 jop_44 rfl (ld_a l0) ?_
    refine t_0 jop_45 rfl (pq_cv jeo_196 rfl (show cF g3 196 33 = w from S_f hS3 2 (Nat.le_of_ble_eq_true rfl))) ?_
    show t_X d 229 48 lv [oI (w), pvR 196] g3 P
    refine t_0 jop_48 rfl rfl ?_
    refine t_0 jop_49 rfl pq_add ?_
    refine ts_f (n := 2) rfl rfl (by decide) jop_50 rfl jeo_196 hS3 wt_jW_196_33 jgy_196_33 (by decide) ⟨by omega, by omega⟩ (fun g4 hS4 => ?_)
    replace hS4 : jS g0 g4 p k (w + 1) (op + 1) ft u sa (updI wa w.toNat (1048576 * a)) := hS4
    show t_X d 229 53 lv [] g4 P
    refine t_0 jop_53 rfl (ld_a l0) ?_
    refine t_0 jop_54 rfl (ld_a l0) ?_
    refine t_0 jop_55 rfl (pq_cv jeo_196 rfl (show cF g4 196 18 = p from S_f hS4 0 (Nat.le_of_ble_eq_true rfl))) ?_
    show t_X d 229 58 lv [oI (p), pvR 196] g4 P
    refine t_0 jop_58 rfl rfl ?_
    refine t_0 jop_59 rfl pq_add ?_
    refine ts_f (n := 0) rfl rfl (by decide) jop_60 rfl jeo_196 hS4 wt_jW_196_18 jgy_196_18 (by decide) ⟨by omega, by omega⟩ (fun g5 hS5 => ?_)
    replace hS5 : jS g0 g5 (p + 1) k (w + 1) (op + 1) ft u sa (updI wa w.toNat (1048576 * a)) := hS5
    show t_X d 229 63 lv [] g5 P
    refine t_0 jop_63 rfl rfl ?_
    refine t_5 jop_64 rfl rfl ?_
    exact h1 (by omega) _ hS5
  · show t_X d 229 9 lv [] g P
    refine t_0 jop_9 rfl (ld_a l0) ?_
    refine t_0 jop_10 rfl rfl ?_
    refine t_0 jop_11 rfl (ld_a l0) ?_
    refine t_0 jop_12 rfl (pq_cv jeo_196 rfl (show cF g 196 18 = p from S_f hS 0 (Nat.le_of_ble_eq_true rfl))) ?_
    show t_X d 229 15 lv [oI (p), oI 5, pvR 196] g P
    refine t_3 jop_15 rfl (ar := ([pvR 196, oI 5, oI (p)], [])) (pcal_w (as := [oI (p), oI 5]) rfl rfl rfl jeo_196) ⟨by omega, Nat.le_of_ble_eq_true rfl, Nat.le_of_ble_eq_true rfl, rfl⟩ ?_
    refine jw_run hB hS ⟨by omega, by omega⟩ ⟨by omega, by omega⟩ (fun g6 hS6 => ?_) rfl rfl rfl
    replace hS6 : jS g0 g6 p k w op (-1000 * 5 - p) u sa wa := hS6
    show t_X d 229 18 lv [oI 0] g6 P
    refine t_5 jop_18 rfl rfl ?_
    exact h0 (by omega) _ (by rw [show -5000 - p = -1000 * 5 - p by omega]; exact hS6)
theorem jju_run {d : Nat} (hd : 1 ≤ d) {g0 g : pH} {B : tC} {n : Int} (hB : jB g0 B n) {p k w op ft u : Int} {sa wa : tC} (hS : jS g0 g p k w op ft u sa wa) (hp : 0 ≤ p ∧ p < n) {a : Int} (ha : 11 ≤ a ∧ a ≤ 12) (hk : 0 ≤ k ∧ k ≤ 240) (hw : 0 ≤ w ∧ w ≤ 259) {P : Option pv × pH → Prop} (hP : ∀ g1 : pH, jS g0 g1 (p + 1) (k + 1) (w + 1) op ft u (updI sa k.toNat (1048576 * a)) (updI wa w.toNat (1048576 * a + k)) → P (none, g1)) {lv : List (Nat × pv)} (l0 : px_lg lv 0 = some (pvR 196)) (l1 : px_lg lv 1 = some (oI a)) : t_X d 208 0 lv [] g P := by
  have hn0 := hB.2.2.1
  have hn1 := hB.2.2.2
  have hH : ∀ q, 0 ≤ q → -1 ≤ tH B n q ∧ tH B n q ≤ 255 := fun q hq => tH_b (jp_b hB.2.1) (by omega) hq
  refine t_0 jju_0 rfl (ld_a l0) ?_
  refine t_0 jju_1 rfl (jcq_196_37 (S_J hS).1) ?_
  show t_X d 208 4 lv [pvR 217] g P
  refine t_0 jju_4 rfl (ld_a l0) ?_
  refine t_0 jju_5 rfl (pq_cv jeo_196 rfl (show cF g 196 33 = w from S_f hS 2 (Nat.le_of_ble_eq_true rfl))) ?_
  show t_X d 208 8 lv [oI (w), pvR 217] g P
  refine t_0 jju_8 rfl (pq_cw (n := 1048576) (by decide +kernel)) ?_
  refine t_0 jju_11 rfl (ld_i l1) ?_
  refine t_0 jju_12 rfl pq_mul ?_
  refine t_0 jju_13 rfl (ld_a l0) ?_
  refine t_0 jju_14 rfl (pq_cv jeo_196 rfl (show cF g 196 32 = k from S_f hS 1 (Nat.le_of_ble_eq_true rfl))) ?_
  show t_X d 208 17 lv [oI (k), oI (1048576 * a), oI (w), pvR 217] g P
  refine t_0 jju_17 rfl pq_add ?_
  refine ts_a (n := 1) rfl rfl (by decide) jju_18 hS jez_217 rfl wu_jW_217 jgu_217 (by decide) ⟨by omega, by omega⟩ ⟨by omega, by omega⟩ (fun g1 hS1 => ?_)
  replace hS1 : jS g0 g1 p k w op ft u sa (updI wa w.toNat ((1048576 * a) + k)) := hS1
  show t_X d 208 19 lv [] g1 P
  refine t_0 jju_19 rfl (ld_a l0) ?_
  refine t_0 jju_20 rfl (ld_a l0) ?_
  refine t_0 jju_21 rfl (pq_cv jeo_196 rfl (show cF g1 196 33 = w from S_f hS1 2 (Nat.le_of_ble_eq_true rfl))) ?_
  show t_X d 208 24 lv [oI (w), pvR 196] g1 P
  refine t_0 jju_24 rfl rfl ?_
  refine t_0 jju_25 rfl pq_add ?_
  refine ts_f (n := 2) rfl rfl (by decide) jju_26 rfl jeo_196 hS1 wt_jW_196_33 jgy_196_33 (by decide) ⟨by omega, by omega⟩ (fun g2 hS2 => ?_)
  replace hS2 : jS g0 g2 p k (w + 1) op ft u sa (updI wa w.toNat ((1048576 * a) + k)) := hS2
  show t_X d 208 29 lv [] g2 P
  refine t_0 jju_29 rfl (ld_a l0) ?_
  refine t_0 jju_30 rfl (ld_i l1) ?_
  refine t_0 jju_31 rfl rfl ?_
  refine t_3 jju_32 rfl (ar := ([pvR 196, oI (a), oI 0], [])) (pcal_w (as := [oI 0, oI (a)]) rfl rfl rfl jeo_196) ⟨by omega, Nat.le_of_ble_eq_true rfl, Nat.le_of_ble_eq_true rfl, rfl⟩ ?_
  refine jno_run hB hS2 ⟨by omega, by omega⟩ ⟨by omega, by omega⟩ ⟨by omega, by omega⟩ (fun g3 hS3 => ?_) rfl rfl rfl
  replace hS3 : jS g0 g3 p (k + 1) (w + 1) op ft u (updI sa k.toNat (1048576 * a + 0)) (updI wa w.toNat ((1048576 * a) + k)) := hS3
  show t_X d 208 35 lv [] g3 P
  refine t_0 jju_35 rfl (ld_a l0) ?_
  refine t_0 jju_36 rfl (ld_a l0) ?_
  refine t_0 jju_37 rfl (pq_cv jeo_196 rfl (show cF g3 196 18 = p from S_f hS3 0 (Nat.le_of_ble_eq_true rfl))) ?_
  show t_X d 208 40 lv [oI (p), pvR 196] g3 P
  refine t_0 jju_40 rfl rfl ?_
  refine t_0 jju_41 rfl pq_add ?_
  refine ts_f (n := 0) rfl rfl (by decide) jju_42 rfl jeo_196 hS3 wt_jW_196_18 jgy_196_18 (by decide) ⟨by omega, by omega⟩ (fun g4 hS4 => ?_)
  replace hS4 : jS g0 g4 (p + 1) (k + 1) (w + 1) op ft u (updI sa k.toNat (1048576 * a + 0)) (updI wa w.toNat ((1048576 * a) + k)) := hS4
  show t_X d 208 45 lv [] g4 P
  refine t_5 jju_45 rfl rfl ?_
  refine hP _ ?_
  rw [show updI sa k.toNat (1048576 * a) = updI sa k.toNat (1048576 * a + 0) from by rw [Int.add_zero]]
  exact (by exact hS4)
theorem jsg_run {d : Nat} {g : pH} {c : Int} (hc : -1 ≤ c ∧ c ≤ 255) {P : Option pv × pH → Prop} (hP : P (some (oI (lSg c)), g)) {lv : List (Nat × pv)} (l0 : px_lg lv 0 = some (oI c)) : t_X d 256 0 lv [] g P := by
  refine t_0 jsg_0 rfl (ld_i l0) ?_
  refine t_0 jsg_1 rfl (pq_b (by decide)) ?_
  refine tb_ne jsg_3 (by decide) ⟨by omega, by omega⟩ ⟨by omega, by omega⟩ (fun c1 => ?_) (fun c1 => ?_)
  · show t_X d 256 10 lv [] g P
    refine t_0 jsg_10 rfl (ld_i l0) ?_
    refine t_0 jsg_11 rfl (pq_b (by decide)) ?_
    refine tb_ne jsg_13 (by decide) ⟨by omega, by omega⟩ ⟨by omega, by omega⟩ (fun c2 => ?_) (fun c2 => ?_)
    · show t_X d 256 20 lv [] g P
      refine t_0 jsg_20 rfl (ld_i l0) ?_
      refine t_0 jsg_21 rfl (pq_b (by decide)) ?_
      refine tb_ne jsg_23 (by decide) ⟨by omega, by omega⟩ ⟨by omega, by omega⟩ (fun c3 => ?_) (fun c3 => ?_)
      · show t_X d 256 30 lv [] g P
        refine t_0 jsg_30 rfl (ld_i l0) ?_
        refine t_0 jsg_31 rfl (pq_b (by decide)) ?_
        refine tb_ne jsg_33 (by decide) ⟨by omega, by omega⟩ ⟨by omega, by omega⟩ (fun c4 => ?_) (fun c4 => ?_)
        · show t_X d 256 40 lv [] g P
          refine t_0 jsg_40 rfl (ld_i l0) ?_
          refine t_0 jsg_41 rfl (pq_b (by decide)) ?_
          refine tb_ne jsg_43 (by decide) ⟨by omega, by omega⟩ ⟨by omega, by omega⟩ (fun c5 => ?_) (fun c5 => ?_)
          · show t_X d 256 51 lv [] g P
            refine t_0 jsg_51 rfl rfl ?_
            refine t_5 jsg_52 rfl rfl ?_
            have e9 : lSg c = (-1) := by unfold lSg lS2 lT3; repeat' split; all_goals omega
            rw [e9] at hP
            exact hP
          · show t_X d 256 46 lv [] g P
            refine t_0 jsg_46 rfl (pq_b (by decide)) ?_
            refine t_1 jsg_48 rfl (pb_goto (pc := 48) (by decide)) ?_
            show t_X d 256 52 lv [oI 6] g P
            refine t_5 jsg_52 rfl rfl ?_
            have e9 : lSg c = 6 := by unfold lSg lS2 lT3; repeat' split; all_goals omega
            rw [e9] at hP
            exact hP
        · show t_X d 256 36 lv [] g P
          refine t_0 jsg_36 rfl rfl ?_
          refine t_1 jsg_37 rfl (pb_goto (pc := 37) (by decide)) ?_
          show t_X d 256 52 lv [oI 5] g P
          refine t_5 jsg_52 rfl rfl ?_
          have e9 : lSg c = 5 := by unfold lSg lS2 lT3; repeat' split; all_goals omega
          rw [e9] at hP
          exact hP
      · show t_X d 256 26 lv [] g P
        refine t_0 jsg_26 rfl rfl ?_
        refine t_1 jsg_27 rfl (pb_goto (pc := 27) (by decide)) ?_
        show t_X d 256 52 lv [oI 4] g P
        refine t_5 jsg_52 rfl rfl ?_
        have e9 : lSg c = 4 := by unfold lSg lS2 lT3; repeat' split; all_goals omega
        rw [e9] at hP
        exact hP
    · show t_X d 256 16 lv [] g P
      refine t_0 jsg_16 rfl rfl ?_
      refine t_1 jsg_17 rfl (pb_goto (pc := 17) (by decide)) ?_
      show t_X d 256 52 lv [oI 3] g P
      refine t_5 jsg_52 rfl rfl ?_
      have e9 : lSg c = 3 := by unfold lSg lS2 lT3; repeat' split; all_goals omega
      rw [e9] at hP
      exact hP
  · show t_X d 256 6 lv [] g P
    refine t_0 jsg_6 rfl rfl ?_
    refine t_1 jsg_7 rfl (pb_goto (pc := 7) (by decide)) ?_
    show t_X d 256 52 lv [oI 2] g P
    refine t_5 jsg_52 rfl rfl ?_
    have e9 : lSg c = 2 := by unfold lSg lS2 lT3; repeat' split; all_goals omega
    rw [e9] at hP
    exact hP
theorem jfo_run {d : Nat} {g : pH} {c : Int} (hc : -1 ≤ c ∧ c ≤ 255) {P : Option pv × pH → Prop} (hP : P (some (oI (lFa c)), g)) {lv : List (Nat × pv)} (l0 : px_lg lv 0 = some (oI c)) : t_X d 188 0 lv [] g P := by
  refine t_0 qfo_0 rfl (ld_i l0) ?_
  have e1 : (Int32.ofInt c).toInt = c := oT (by omega) (by omega)
  by_cases h : c < 97 ∨ 122 < c
  · refine t_1 qfo_1 rfl (t := (147, [])) ?_ ?_
    · show (if (Int32.ofInt c).toInt < 97 ∨ 122 < (Int32.ofInt c).toInt then (if 0 ≤ ((1 : Nat) : Int) + 146 then some (px_tg 1 146, []) else none) else _) = _
      rw [e1, if_pos h]
      rfl
    · show t_X d 188 147 lv [] g P
      refine t_0 qfo_147 rfl rfl ?_
      refine t_5 qfo_148 rfl rfl ?_
      have e9 : lFa c = -1 := by have := lFa_b c; omega
      rw [e9] at hP
      exact hP
  · have hh : c = 97 ∨ c = 98 ∨ c = 99 ∨ c = 100 ∨ c = 101 ∨ c = 102 ∨ c = 103 ∨ c = 104 ∨ c = 105 ∨ c = 106 ∨ c = 107 ∨ c = 108 ∨ c = 109 ∨ c = 110 ∨ c = 111 ∨ c = 112 ∨ c = 113 ∨ c = 114 ∨ c = 115 ∨ c = 116 ∨ c = 117 ∨ c = 118 ∨ c = 119 ∨ c = 120 ∨ c = 121 ∨ c = 122 := by omega
    clear h e1
    rcases hh with rfl | rfl | rfl | rfl | rfl | rfl | rfl | rfl | rfl | rfl | rfl | rfl | rfl | rfl | rfl | rfl | rfl | rfl | rfl | rfl | rfl | rfl | rfl | rfl | rfl | rfl
    · refine t_1 qfo_1 rfl (t := (124, [])) rfl ?_
      show t_X d 188 124 lv [] g P
      refine t_0 qfo_124 rfl rfl ?_
      refine t_5 qfo_125 rfl rfl ?_
      exact hP
    · refine t_1 qfo_1 rfl (t := (147, [])) rfl ?_
      show t_X d 188 147 lv [] g P
      refine t_0 qfo_147 rfl rfl ?_
      refine t_5 qfo_148 rfl rfl ?_
      exact hP
    · refine t_1 qfo_1 rfl (t := (147, [])) rfl ?_
      show t_X d 188 147 lv [] g P
      refine t_0 qfo_147 rfl rfl ?_
      refine t_5 qfo_148 rfl rfl ?_
      exact hP
    · refine t_1 qfo_1 rfl (t := (147, [])) rfl ?_
      show t_X d 188 147 lv [] g P
      refine t_0 qfo_147 rfl rfl ?_
      refine t_5 qfo_148 rfl rfl ?_
      exact hP
    · refine t_1 qfo_1 rfl (t := (141, [])) rfl ?_
      show t_X d 188 141 lv [] g P
      refine t_0 qfo_141 rfl (pq_b (by decide)) ?_
      refine t_5 qfo_143 rfl rfl ?_
      exact hP
    · refine t_1 qfo_1 rfl (t := (147, [])) rfl ?_
      show t_X d 188 147 lv [] g P
      refine t_0 qfo_147 rfl rfl ?_
      refine t_5 qfo_148 rfl rfl ?_
      exact hP
    · refine t_1 qfo_1 rfl (t := (147, [])) rfl ?_
      show t_X d 188 147 lv [] g P
      refine t_0 qfo_147 rfl rfl ?_
      refine t_5 qfo_148 rfl rfl ?_
      exact hP
    · refine t_1 qfo_1 rfl (t := (147, [])) rfl ?_
      show t_X d 188 147 lv [] g P
      refine t_0 qfo_147 rfl rfl ?_
      refine t_5 qfo_148 rfl rfl ?_
      exact hP
    · refine t_1 qfo_1 rfl (t := (120, [])) rfl ?_
      show t_X d 188 120 lv [] g P
      refine t_0 qfo_120 rfl rfl ?_
      refine t_5 qfo_121 rfl rfl ?_
      exact hP
    · refine t_1 qfo_1 rfl (t := (147, [])) rfl ?_
      show t_X d 188 147 lv [] g P
      refine t_0 qfo_147 rfl rfl ?_
      refine t_5 qfo_148 rfl rfl ?_
      exact hP
    · refine t_1 qfo_1 rfl (t := (122, [])) rfl ?_
      show t_X d 188 122 lv [] g P
      refine t_0 qfo_122 rfl rfl ?_
      refine t_5 qfo_123 rfl rfl ?_
      exact hP
    · refine t_1 qfo_1 rfl (t := (138, [])) rfl ?_
      show t_X d 188 138 lv [] g P
      refine t_0 qfo_138 rfl (pq_b (by decide)) ?_
      refine t_5 qfo_140 rfl rfl ?_
      exact hP
    · refine t_1 qfo_1 rfl (t := (130, [])) rfl ?_
      show t_X d 188 130 lv [] g P
      refine t_0 qfo_130 rfl rfl ?_
      refine t_5 qfo_131 rfl rfl ?_
      exact hP
    · refine t_1 qfo_1 rfl (t := (147, [])) rfl ?_
      show t_X d 188 147 lv [] g P
      refine t_0 qfo_147 rfl rfl ?_
      refine t_5 qfo_148 rfl rfl ?_
      exact hP
    · refine t_1 qfo_1 rfl (t := (132, [])) rfl ?_
      show t_X d 188 132 lv [] g P
      refine t_0 qfo_132 rfl (pq_b (by decide)) ?_
      refine t_5 qfo_134 rfl rfl ?_
      exact hP
    · refine t_1 qfo_1 rfl (t := (147, [])) rfl ?_
      show t_X d 188 147 lv [] g P
      refine t_0 qfo_147 rfl rfl ?_
      refine t_5 qfo_148 rfl rfl ?_
      exact hP
    · refine t_1 qfo_1 rfl (t := (128, [])) rfl ?_
      show t_X d 188 128 lv [] g P
      refine t_0 qfo_128 rfl rfl ?_
      refine t_5 qfo_129 rfl rfl ?_
      exact hP
    · refine t_1 qfo_1 rfl (t := (147, [])) rfl ?_
      show t_X d 188 147 lv [] g P
      refine t_0 qfo_147 rfl rfl ?_
      refine t_5 qfo_148 rfl rfl ?_
      exact hP
    · refine t_1 qfo_1 rfl (t := (147, [])) rfl ?_
      show t_X d 188 147 lv [] g P
      refine t_0 qfo_147 rfl rfl ?_
      refine t_5 qfo_148 rfl rfl ?_
      exact hP
    · refine t_1 qfo_1 rfl (t := (147, [])) rfl ?_
      show t_X d 188 147 lv [] g P
      refine t_0 qfo_147 rfl rfl ?_
      refine t_5 qfo_148 rfl rfl ?_
      exact hP
    · refine t_1 qfo_1 rfl (t := (147, [])) rfl ?_
      show t_X d 188 147 lv [] g P
      refine t_0 qfo_147 rfl rfl ?_
      refine t_5 qfo_148 rfl rfl ?_
      exact hP
    · refine t_1 qfo_1 rfl (t := (135, [])) rfl ?_
      show t_X d 188 135 lv [] g P
      refine t_0 qfo_135 rfl (pq_b (by decide)) ?_
      refine t_5 qfo_137 rfl rfl ?_
      exact hP
    · refine t_1 qfo_1 rfl (t := (147, [])) rfl ?_
      show t_X d 188 147 lv [] g P
      refine t_0 qfo_147 rfl rfl ?_
      refine t_5 qfo_148 rfl rfl ?_
      exact hP
    · refine t_1 qfo_1 rfl (t := (147, [])) rfl ?_
      show t_X d 188 147 lv [] g P
      refine t_0 qfo_147 rfl rfl ?_
      refine t_5 qfo_148 rfl rfl ?_
      exact hP
    · refine t_1 qfo_1 rfl (t := (126, [])) rfl ?_
      show t_X d 188 126 lv [] g P
      refine t_0 qfo_126 rfl rfl ?_
      refine t_5 qfo_127 rfl rfl ?_
      exact hP
    · refine t_1 qfo_1 rfl (t := (144, [])) rfl ?_
      show t_X d 188 144 lv [] g P
      refine t_0 qfo_144 rfl (pq_b (by decide)) ?_
      refine t_5 qfo_146 rfl rfl ?_
      exact hP
set_option maxHeartbeats 2000000 in
theorem jrn_l {d : Nat} (hd : 2 ≤ d) {g0 : pH} {B : tC} {n : Int} (hB : jB g0 B n) {p k w op ft : Int} {sa wa : tC} (hp : 0 ≤ p ∧ p ≤ n) {P : Option pv × pH → Prop} (hF : ∀ (g1 : pH) (f : Int), jFt g0 g1 f → lNf (tH B n) p f → P (some (oI 0), g1)) (hO : ∀ (g1 : pH) (x q : Int), jS g0 g1 q k w op ft x sa wa → ∀ i : Nat, (∀ j : Nat, j < i → tDg (tH B n (p + j))) → ¬ tDg (tH B n (p + i)) → i ≤ 5 → x = lV (tH B n) p i → q = p + i → P (some (oI 1), g1)) : ∀ (y i : Nat) (g : pH) (lv : List (Nat × pv)), 5 - i ≤ y → i ≤ 5 → jS g0 g (p + (i : Int)) k w op ft (lV (tH B n) p i) sa wa → (∀ j : Nat, j < i → tDg (tH B n (p + j))) → px_lg lv 0 = some (pvR 196) → px_lg lv 1 = some (oI p) → t_X d 238 10 lv [] g P := by
  have key : ∀ i : Nat, i ≤ 5 → (∀ j : Nat, j < i → tDg (tH B n (p + j))) → p + i ≤ n ∧ 0 ≤ lV (tH B n) p i ∧ lV (tH B n) p i ≤ 99999 := fun i hi h => by
    have h5 := lV_b h
    have h6 : (10 : Int) ^ i ≤ 100000 := by
      have : i = 0 ∨ i = 1 ∨ i = 2 ∨ i = 3 ∨ i = 4 ∨ i = 5 := by omega
      rcases this with rfl | rfl | rfl | rfl | rfl | rfl <;> decide
    refine ⟨?_, h5.1, by omega⟩
    rcases Nat.eq_zero_or_pos i with e | e
    · omega
    · have h7 := h (i - 1) (by omega)
      have h8 := tH_n (B := B) (n := n) (p := p + ((i - 1 : Nat) : Int))
      unfold tDg at h7
      omega
  have hn0 := hB.2.2.1
  have hn1 := hB.2.2.2
  have hH : ∀ q, 0 ≤ q → -1 ≤ tH B n q ∧ tH B n q ≤ 255 := fun q hq => tH_b (jp_b hB.2.1) (by omega) hq
  intro y
  induction y with
  | zero =>
    intro i g lv hy hi hS hd9 l0 l1
    obtain ⟨k1, k2, k3⟩ := key i hi hd9
    refine t_0 jrn_10 rfl (ld_a l0) ?_
    refine t_3 jrn_11 rfl (ar := ([pvR 196], [])) (pcal_w (as := []) rfl rfl rfl jeo_196) ⟨by omega, Nat.le_of_ble_eq_true rfl, Nat.le_of_ble_eq_true rfl, rfl⟩ ?_
    have b1 := hH (p + (i : Int)) (by omega)
    have z1 := tH_n (B := B) (n := n) (p := p + (i : Int))
    refine jd_run (by omega) hB hS (by omega) (fun t1 => ?_) (fun t1 => ?_) rfl
    · unfold tDg at t1
      show t_X d 238 14 lv [oI 1] g P
      refine tz_eq jrn_14 (by decide) ⟨by omega, by omega⟩ (fun c2 => absurd c2 (by omega)) (fun c2 => ?_)
      show t_X d 238 17 lv [] g P
      refine t_0 jrn_17 rfl (ld_a l0) ?_
      refine t_0 jrn_18 rfl (pq_cv jeo_196 rfl (show cF g 196 18 = p + (i : Int) from S_f hS 0 (Nat.le_of_ble_eq_true rfl))) ?_
      show t_X d 238 21 lv [oI (p + (i : Int))] g P
      refine t_0 jrn_21 rfl (ld_i l1) ?_
      refine t_0 jrn_22 rfl rfl ?_
      refine t_0 jrn_23 rfl pq_add ?_
      refine tb_ne jrn_24 (by decide) ⟨by omega, by omega⟩ ⟨by omega, by omega⟩ (fun c3 => absurd c3 (by omega)) (fun c3 => ?_)
      show t_X d 238 27 lv [] g P
      refine t_0 jrn_27 rfl (ld_a l0) ?_
      refine t_0 jrn_28 rfl rfl ?_
      refine t_0 jrn_29 rfl (ld_a l0) ?_
      refine t_0 jrn_30 rfl (pq_cv jeo_196 rfl (show cF g 196 18 = p + (i : Int) from S_f hS 0 (Nat.le_of_ble_eq_true rfl))) ?_
      show t_X d 238 33 lv [oI (p + (i : Int)), oI 2, pvR 196] g P
      refine t_3 jrn_33 rfl (ar := ([pvR 196, oI 2, oI (p + (i : Int))], [])) (pcal_w (as := [oI (p + (i : Int)), oI 2]) rfl rfl rfl jeo_196) ⟨by omega, Nat.le_of_ble_eq_true rfl, Nat.le_of_ble_eq_true rfl, rfl⟩ ?_
      refine jw_run hB hS ⟨by omega, by omega⟩ ⟨by omega, by omega⟩ (fun g4 hS4 => ?_) rfl rfl rfl
      replace hS4 : jS g0 g4 (p + (i : Int)) k w op (-1000 * 2 - (p + (i : Int))) (lV (tH B n) p i) sa wa := hS4
      show t_X d 238 36 lv [oI 0] g4 P
      refine t_5 jrn_36 rfl rfl ?_
      refine hF _ _ ⟨_, _, _, _, _, _, _, (show jS g0 g4 _ _ _ _ (-2000 - (p + 5)) _ _ _ by rw [show -2000 - (p + 5) = -1000 * 2 - (p + (i : Int)) by omega]; exact hS4)⟩ ⟨fun j hj => ?_, rfl⟩
      rcases Nat.lt_or_ge j i with q | q
      · exact hd9 j q
      · rw [show p + (j : Int) = p + (i : Int) by omega]; unfold tDg; omega
    · unfold tDg at t1
      show t_X d 238 14 lv [oI 0] g P
      refine tz_eq jrn_14 (by decide) ⟨by omega, by omega⟩ (fun c5 => ?_) (fun c5 => absurd c5 (by omega))
      show t_X d 238 69 lv [] g P
      refine t_0 jrn_69 rfl rfl ?_
      refine t_5 jrn_70 rfl rfl ?_
      exact hO _ _ _ hS i hd9 (by unfold tDg; omega) (by omega) rfl rfl
  | succ y ih =>
    intro i g lv hy hi hS hd9 l0 l1
    obtain ⟨k1, k2, k3⟩ := key i hi hd9
    by_cases hii : i < 5
    · skip
      refine t_0 jrn_10 rfl (ld_a l0) ?_
      refine t_3 jrn_11 rfl (ar := ([pvR 196], [])) (pcal_w (as := []) rfl rfl rfl jeo_196) ⟨by omega, Nat.le_of_ble_eq_true rfl, Nat.le_of_ble_eq_true rfl, rfl⟩ ?_
      have b1 := hH (p + (i : Int)) (by omega)
      have z1 := tH_n (B := B) (n := n) (p := p + (i : Int))
      refine jd_run (by omega) hB hS (by omega) (fun t1 => ?_) (fun t1 => ?_) rfl
      · unfold tDg at t1
        show t_X d 238 14 lv [oI 1] g P
        refine tz_eq jrn_14 (by decide) ⟨by omega, by omega⟩ (fun c2 => absurd c2 (by omega)) (fun c2 => ?_)
        show t_X d 238 17 lv [] g P
        refine t_0 jrn_17 rfl (ld_a l0) ?_
        refine t_0 jrn_18 rfl (pq_cv jeo_196 rfl (show cF g 196 18 = p + (i : Int) from S_f hS 0 (Nat.le_of_ble_eq_true rfl))) ?_
        show t_X d 238 21 lv [oI (p + (i : Int))] g P
        refine t_0 jrn_21 rfl (ld_i l1) ?_
        refine t_0 jrn_22 rfl rfl ?_
        refine t_0 jrn_23 rfl pq_add ?_
        refine tb_ne jrn_24 (by decide) ⟨by omega, by omega⟩ ⟨by omega, by omega⟩ (fun c3 => ?_) (fun c3 => absurd c3 (by omega))
        show t_X d 238 37 lv [] g P
        refine t_0 jrn_37 rfl (ld_a l0) ?_
        refine t_0 jrn_38 rfl (pq_b (by decide)) ?_
        refine t_0 jrn_40 rfl (ld_a l0) ?_
        refine t_0 jrn_41 rfl (pq_cv jeo_196 rfl (show cF g 196 21 = lV (tH B n) p i from S_f hS 5 (Nat.le_of_ble_eq_true rfl))) ?_
        show t_X d 238 44 lv [oI (lV (tH B n) p i), oI 10, pvR 196] g P
        refine t_0 jrn_44 rfl pq_mul ?_
        refine t_0 jrn_45 rfl (ld_a l0) ?_
        refine t_3 jrn_46 rfl (ar := ([pvR 196], [oI (10 * (lV (tH B n) p i)), pvR 196])) (pcal_w (as := []) rfl rfl rfl jeo_196) ⟨by omega, Nat.le_of_ble_eq_true rfl, Nat.le_of_ble_eq_true rfl, rfl⟩ ?_
        refine jh_run hB hS (by omega) ?_ rfl
        show t_X d 238 49 lv [oI (tH B n (p + (i : Int))), oI (10 * (lV (tH B n) p i)), pvR 196] g P
        refine t_0 jrn_49 rfl pq_add ?_
        refine t_0 jrn_50 rfl (pq_b (by decide)) ?_
        refine t_0 jrn_52 rfl pq_sub ?_
        refine ts_f (n := 5) rfl rfl (by decide) jrn_53 rfl jeo_196 hS wt_jW_196_21 jgy_196_21 (by decide) ⟨by omega, by omega⟩ (fun g4 hS4 => ?_)
        replace hS4 : jS g0 g4 (p + (i : Int)) k w op ft (((10 * (lV (tH B n) p i)) + (tH B n (p + (i : Int)))) - 48) sa wa := hS4
        show t_X d 238 56 lv [] g4 P
        refine t_0 jrn_56 rfl (ld_a l0) ?_
        refine t_0 jrn_57 rfl (ld_a l0) ?_
        refine t_0 jrn_58 rfl (pq_cv jeo_196 rfl (show cF g4 196 18 = p + (i : Int) from S_f hS4 0 (Nat.le_of_ble_eq_true rfl))) ?_
        show t_X d 238 61 lv [oI (p + (i : Int)), pvR 196] g4 P
        refine t_0 jrn_61 rfl rfl ?_
        refine t_0 jrn_62 rfl pq_add ?_
        refine ts_f (n := 0) rfl rfl (by decide) jrn_63 rfl jeo_196 hS4 wt_jW_196_18 jgy_196_18 (by decide) ⟨by omega, by omega⟩ (fun g5 hS5 => ?_)
        replace hS5 : jS g0 g5 ((p + (i : Int)) + 1) k w op ft (((10 * (lV (tH B n) p i)) + (tH B n (p + (i : Int)))) - 48) sa wa := hS5
        show t_X d 238 66 lv [] g5 P
        refine t_1 jrn_66 rfl (pb_goto (pc := 66) (by decide)) ?_
        show t_X d 238 10 lv [] g5 P
        refine ih (i + 1) _ _ (by omega) (by omega) (show jS g0 g5 (p + ((i + 1 : Nat) : Int)) k w op ft (lV (tH B n) p (i + 1)) sa wa by rw [show p + ((i + 1 : Nat) : Int) = p + (i : Int) + 1 by omega, show lV (tH B n) p (i + 1) = ((10 * (lV (tH B n) p i)) + (tH B n (p + (i : Int)))) - 48 from by show 10 * lV (tH B n) p i + (tH B n (p + i) - 48) = _; omega]; exact hS5) (fun j hj => ?_) l0 l1
        rcases Nat.lt_or_ge j i with q | q
        · exact hd9 j q
        · rw [show j = i by omega]; unfold tDg; omega
      · unfold tDg at t1
        show t_X d 238 14 lv [oI 0] g P
        refine tz_eq jrn_14 (by decide) ⟨by omega, by omega⟩ (fun c6 => ?_) (fun c6 => absurd c6 (by omega))
        show t_X d 238 69 lv [] g P
        refine t_0 jrn_69 rfl rfl ?_
        refine t_5 jrn_70 rfl rfl ?_
        exact hO _ _ _ hS i hd9 (by unfold tDg; omega) (by omega) rfl rfl
    · skip
      refine t_0 jrn_10 rfl (ld_a l0) ?_
      refine t_3 jrn_11 rfl (ar := ([pvR 196], [])) (pcal_w (as := []) rfl rfl rfl jeo_196) ⟨by omega, Nat.le_of_ble_eq_true rfl, Nat.le_of_ble_eq_true rfl, rfl⟩ ?_
      have b1 := hH (p + (i : Int)) (by omega)
      have z1 := tH_n (B := B) (n := n) (p := p + (i : Int))
      refine jd_run (by omega) hB hS (by omega) (fun t1 => ?_) (fun t1 => ?_) rfl
      · unfold tDg at t1
        show t_X d 238 14 lv [oI 1] g P
        refine tz_eq jrn_14 (by decide) ⟨by omega, by omega⟩ (fun c2 => absurd c2 (by omega)) (fun c2 => ?_)
        show t_X d 238 17 lv [] g P
        refine t_0 jrn_17 rfl (ld_a l0) ?_
        refine t_0 jrn_18 rfl (pq_cv jeo_196 rfl (show cF g 196 18 = p + (i : Int) from S_f hS 0 (Nat.le_of_ble_eq_true rfl))) ?_
        show t_X d 238 21 lv [oI (p + (i : Int))] g P
        refine t_0 jrn_21 rfl (ld_i l1) ?_
        refine t_0 jrn_22 rfl rfl ?_
        refine t_0 jrn_23 rfl pq_add ?_
        refine tb_ne jrn_24 (by decide) ⟨by omega, by omega⟩ ⟨by omega, by omega⟩ (fun c3 => absurd c3 (by omega)) (fun c3 => ?_)
        show t_X d 238 27 lv [] g P
        refine t_0 jrn_27 rfl (ld_a l0) ?_
        refine t_0 jrn_28 rfl rfl ?_
        refine t_0 jrn_29 rfl (ld_a l0) ?_
        refine t_0 jrn_30 rfl (pq_cv jeo_196 rfl (show cF g 196 18 = p + (i : Int) from S_f hS 0 (Nat.le_of_ble_eq_true rfl))) ?_
        show t_X d 238 33 lv [oI (p + (i : Int)), oI 2, pvR 196] g P
        refine t_3 jrn_33 rfl (ar := ([pvR 196, oI 2, oI (p + (i : Int))], [])) (pcal_w (as := [oI (p + (i : Int)), oI 2]) rfl rfl rfl jeo_196) ⟨by omega, Nat.le_of_ble_eq_true rfl, Nat.le_of_ble_eq_true rfl, rfl⟩ ?_
        refine jw_run hB hS ⟨by omega, by omega⟩ ⟨by omega, by omega⟩ (fun g4 hS4 => ?_) rfl rfl rfl
        replace hS4 : jS g0 g4 (p + (i : Int)) k w op (-1000 * 2 - (p + (i : Int))) (lV (tH B n) p i) sa wa := hS4
        show t_X d 238 36 lv [oI 0] g4 P
        refine t_5 jrn_36 rfl rfl ?_
        refine hF _ _ ⟨_, _, _, _, _, _, _, (show jS g0 g4 _ _ _ _ (-2000 - (p + 5)) _ _ _ by rw [show -2000 - (p + 5) = -1000 * 2 - (p + (i : Int)) by omega]; exact hS4)⟩ ⟨fun j hj => ?_, rfl⟩
        rcases Nat.lt_or_ge j i with q | q
        · exact hd9 j q
        · rw [show p + (j : Int) = p + (i : Int) by omega]; unfold tDg; omega
      · unfold tDg at t1
        show t_X d 238 14 lv [oI 0] g P
        refine tz_eq jrn_14 (by decide) ⟨by omega, by omega⟩ (fun c5 => ?_) (fun c5 => absurd c5 (by omega))
        show t_X d 238 69 lv [] g P
        refine t_0 jrn_69 rfl rfl ?_
        refine t_5 jrn_70 rfl rfl ?_
        exact hO _ _ _ hS i hd9 (by unfold tDg; omega) (by omega) rfl rfl
theorem jrn_run {d : Nat} (hd : 2 ≤ d) {g0 g : pH} {B : tC} {n : Int} (hB : jB g0 B n) {p k w op ft u : Int} {sa wa : tC} (hS : jS g0 g p k w op ft u sa wa) (hp : 0 ≤ p ∧ p ≤ n) (h0 : tDg (tH B n p)) {P : Option pv × pH → Prop} (hF : ∀ (g1 : pH) (f : Int), jFt g0 g1 f → lNf (tH B n) p f → P (some (oI 0), g1)) (hO9 : ∀ (g1 : pH) (x q : Int), jS g0 g1 q k w op ft x sa wa → lNu (tH B n) p x q → P (some (oI 1), g1)) {lv : List (Nat × pv)} (l0 : px_lg lv 0 = some (pvR 196)) : t_X d 238 0 lv [] g P := by
  have hO : ∀ (g1 : pH) (x q : Int), jS g0 g1 q k w op ft x sa wa → ∀ i : Nat, (∀ j : Nat, j < i → tDg (tH B n (p + j))) → ¬ tDg (tH B n (p + i)) → i ≤ 5 → x = lV (tH B n) p i → q = p + i → P (some (oI 1), g1) := fun g1 x q hS i h1 h2 h3 h4 h5 => hO9 g1 x q hS ⟨i, by
    rcases Nat.eq_zero_or_pos i with e | e
    · rw [e, show p + ((0 : Nat) : Int) = p by omega] at h2
      exact absurd h0 h2
    · exact e, h3, h1, h2, h4, h5⟩
  have hn0 := hB.2.2.1
  have hn1 := hB.2.2.2
  have hH : ∀ q, 0 ≤ q → -1 ≤ tH B n q ∧ tH B n q ≤ 255 := fun q hq => tH_b (jp_b hB.2.1) (by omega) hq
  refine t_0 jrn_0 rfl (ld_a l0) ?_
  refine t_0 jrn_1 rfl (pq_cv jeo_196 rfl (show cF g 196 18 = p from S_f hS 0 (Nat.le_of_ble_eq_true rfl))) ?_
  show t_X d 238 4 lv [oI (p)] g P
  refine t_2 jrn_4 rfl (w := (px_s1 lv 1 (oI (p)), [])) rfl ?_
  replace l0 : px_lg (px_s1 lv 1 (oI (p))) 0 = some (pvR 196) := s1_ne (by decide) (fun _ => rfl) l0
  have l1 : px_lg (px_s1 lv 1 (oI (p))) 1 = some (oI (p)) := s1_eq
  generalize px_s1 lv 1 (oI (p)) = lv1 at l0 l1 ⊢
  show t_X d 238 5 lv1 [] g P
  refine t_0 jrn_5 rfl (ld_a l0) ?_
  refine t_0 jrn_6 rfl rfl ?_
  refine ts_f (n := 5) rfl rfl (by decide) jrn_7 rfl jeo_196 hS wt_jW_196_21 jgy_196_21 (by decide) ⟨by omega, by omega⟩ (fun g2 hS2 => ?_)
  replace hS2 : jS g0 g2 p k w op ft 0 sa wa := hS2
  show t_X d 238 10 lv1 [] g2 P
  exact jrn_l hd hB hp hF hO 5 0 _ _ (by omega) (by omega) (by rw [show p + ((0 : Nat) : Int) = p by omega]; exact hS2) (fun j hj => absurd hj (Nat.not_lt_zero _)) l0 l1
