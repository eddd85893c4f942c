/-! signs by a way, what a tape shows, fractions: both sides (printed by wip/e2/x16.py) -/
theorem vcd_0 : xe_look (xc 112) 0 = some (.lload_n 0, 1, 0, 0, 0) := by decide +kernel
theorem vcd_1 : xe_look (xc 112) 1 = some (.lstore 4, 2, 0, 0, 0) := by decide +kernel
theorem vcd_3 : xe_look (xc 112) 3 = some (.lload_n 2, 1, 0, 0, 0) := by decide +kernel
theorem vcd_4 : xe_look (xc 112) 4 = some (.lstore 6, 2, 0, 0, 0) := by decide +kernel
theorem vcd_6 : xe_look (xc 112) 6 = some (.iconst 0, 1, 0, 0, 0) := by decide +kernel
theorem vcd_7 : xe_look (xc 112) 7 = some (.istore 8, 2, 0, 0, 0) := by decide +kernel
theorem vcd_9 : xe_look (xc 112) 9 = some (.iload 8, 2, 0, 0, 0) := by decide +kernel
theorem vcd_11 : xe_look (xc 112) 11 = some (.bipush 100, 2, 0, 0, 0) := by decide +kernel
theorem vcd_13 : xe_look (xc 112) 13 = some (.if_icmp .ge 31, 3, 0, 0, 0) := by decide +kernel
theorem vcd_16 : xe_look (xc 112) 16 = some (.lload 6, 2, 0, 0, 0) := by decide +kernel
theorem vcd_18 : xe_look (xc 112) 18 = some (.lconst 0, 1, 0, 0, 0) := by decide +kernel
theorem vcd_19 : xe_look (xc 112) 19 = some (.lcmp, 1, 0, 0, 0) := by decide +kernel
theorem vcd_20 : xe_look (xc 112) 20 = some (.ifCond .eq 24, 3, 0, 0, 0) := by decide +kernel
theorem vcd_23 : xe_look (xc 112) 23 = some (.lload 4, 2, 0, 0, 0) := by decide +kernel
theorem vcd_25 : xe_look (xc 112) 25 = some (.lload 6, 2, 0, 0, 0) := by decide +kernel
theorem vcd_27 : xe_look (xc 112) 27 = some (.lrem, 1, 0, 0, 0) := by decide +kernel
theorem vcd_28 : xe_look (xc 112) 28 = some (.lstore 9, 2, 0, 0, 0) := by decide +kernel
theorem vcd_30 : xe_look (xc 112) 30 = some (.lload 6, 2, 0, 0, 0) := by decide +kernel
theorem vcd_32 : xe_look (xc 112) 32 = some (.lstore 4, 2, 0, 0, 0) := by decide +kernel
theorem vcd_34 : xe_look (xc 112) 34 = some (.lload 9, 2, 0, 0, 0) := by decide +kernel
theorem vcd_36 : xe_look (xc 112) 36 = some (.lstore 6, 2, 0, 0, 0) := by decide +kernel
theorem vcd_38 : xe_look (xc 112) 38 = some (.iinc 8 1, 3, 0, 0, 0) := by decide +kernel
theorem vcd_41 : xe_look (xc 112) 41 = some (.goto (-32), 3, 0, 0, 0) := by decide +kernel
theorem vcd_44 : xe_look (xc 112) 44 = some (.lload 4, 2, 0, 0, 0) := by decide +kernel
theorem vcd_46 : xe_look (xc 112) 46 = some (.lreturn, 1, 0, 0, 0) := by decide +kernel
theorem vgm_0 : xe_look (xc 192) 0 = some (.lload_n 0, 1, 0, 0, 0) := by decide +kernel
theorem vgm_1 : xe_look (xc 192) 1 = some (.lconst 0, 1, 0, 0, 0) := by decide +kernel
theorem vgm_2 : xe_look (xc 192) 2 = some (.lcmp, 1, 0, 0, 0) := by decide +kernel
theorem vgm_3 : xe_look (xc 192) 3 = some (.ifCond .ge 8, 3, 0, 0, 0) := by decide +kernel
theorem vgm_11 : xe_look (xc 192) 11 = some (.lload_n 0, 1, 0, 0, 0) := by decide +kernel
theorem vgm_12 : xe_look (xc 192) 12 = some (.lstore 4, 2, 0, 0, 0) := by decide +kernel
theorem vgm_14 : xe_look (xc 192) 14 = some (.lload_n 2, 1, 0, 0, 0) := by decide +kernel
theorem vgm_15 : xe_look (xc 192) 15 = some (.lstore 6, 2, 0, 0, 0) := by decide +kernel
theorem vgm_17 : xe_look (xc 192) 17 = some (.lload 6, 2, 0, 0, 0) := by decide +kernel
theorem vgm_19 : xe_look (xc 192) 19 = some (.lconst 0, 1, 0, 0, 0) := by decide +kernel
theorem vgm_20 : xe_look (xc 192) 20 = some (.lcmp, 1, 0, 0, 0) := by decide +kernel
theorem vgm_21 : xe_look (xc 192) 21 = some (.ifCond .eq 21, 3, 0, 0, 0) := by decide +kernel
theorem vgm_24 : xe_look (xc 192) 24 = some (.lload 4, 2, 0, 0, 0) := by decide +kernel
theorem vgm_26 : xe_look (xc 192) 26 = some (.lload 6, 2, 0, 0, 0) := by decide +kernel
theorem vgm_28 : xe_look (xc 192) 28 = some (.lrem, 1, 0, 0, 0) := by decide +kernel
theorem vgm_29 : xe_look (xc 192) 29 = some (.lstore 8, 2, 0, 0, 0) := by decide +kernel
theorem vgm_31 : xe_look (xc 192) 31 = some (.lload 6, 2, 0, 0, 0) := by decide +kernel
theorem vgm_33 : xe_look (xc 192) 33 = some (.lstore 4, 2, 0, 0, 0) := by decide +kernel
theorem vgm_35 : xe_look (xc 192) 35 = some (.lload 8, 2, 0, 0, 0) := by decide +kernel
theorem vgm_37 : xe_look (xc 192) 37 = some (.lstore 6, 2, 0, 0, 0) := by decide +kernel
theorem vgm_39 : xe_look (xc 192) 39 = some (.goto (-22), 3, 0, 0, 0) := by decide +kernel
theorem vgm_42 : xe_look (xc 192) 42 = some (.lload 4, 2, 0, 0, 0) := by decide +kernel
theorem vgm_44 : xe_look (xc 192) 44 = some (.lreturn, 1, 0, 0, 0) := by decide +kernel
theorem vpo_0 : xe_look (xc 138) 0 = some (.lload_n 0, 1, 0, 0, 0) := by decide +kernel
theorem vpo_1 : xe_look (xc 138) 1 = some (.invokestatic 424, 3, 4, 0, 1078) := by decide +kernel
theorem vpo_4 : xe_look (xc 138) 4 = some (.lload_n 2, 1, 0, 0, 0) := by decide +kernel
theorem vpo_5 : xe_look (xc 138) 5 = some (.invokestatic 428, 3, 0, 112, 1079) := by decide +kernel
theorem vpo_8 : xe_look (xc 138) 8 = some (.lstore 5, 2, 0, 0, 0) := by decide +kernel
theorem vpo_10 : xe_look (xc 138) 10 = some (.lload 5, 2, 0, 0, 0) := by decide +kernel
theorem vpo_12 : xe_look (xc 138) 12 = some (.lconst 0, 1, 0, 0, 0) := by decide +kernel
theorem vpo_13 : xe_look (xc 138) 13 = some (.lcmp, 1, 0, 0, 0) := by decide +kernel
theorem vpo_14 : xe_look (xc 138) 14 = some (.ifCond .ne 5, 3, 0, 0, 0) := by decide +kernel
theorem vpo_19 : xe_look (xc 138) 19 = some (.iload 4, 2, 0, 0, 0) := by decide +kernel
theorem vpo_21 : xe_look (xc 138) 21 = some (.ifCond .eq 10, 3, 0, 0, 0) := by decide +kernel
theorem vpo_24 : xe_look (xc 138) 24 = some (.lload_n 0, 1, 0, 0, 0) := by decide +kernel
theorem vpo_25 : xe_look (xc 138) 25 = some (.lload 5, 2, 0, 0, 0) := by decide +kernel
theorem vpo_27 : xe_look (xc 138) 27 = some (.ldiv, 1, 0, 0, 0) := by decide +kernel
theorem vpo_28 : xe_look (xc 138) 28 = some (.goto 7, 3, 0, 0, 0) := by decide +kernel
theorem vpo_31 : xe_look (xc 138) 31 = some (.lload_n 2, 1, 0, 0, 0) := by decide +kernel
theorem vpo_32 : xe_look (xc 138) 32 = some (.lload 5, 2, 0, 0, 0) := by decide +kernel
theorem vpo_34 : xe_look (xc 138) 34 = some (.ldiv, 1, 0, 0, 0) := by decide +kernel
theorem vpo_35 : xe_look (xc 138) 35 = some (.lreturn, 1, 0, 0, 0) := by decide +kernel
theorem vsh_0 : xe_look (xc 249) 0 = some (.iconst 0, 1, 0, 0, 0) := by decide +kernel
theorem vsh_1 : xe_look (xc 249) 1 = some (.istore 4, 2, 0, 0, 0) := by decide +kernel
theorem vsh_3 : xe_look (xc 249) 3 = some (.iload 4, 2, 0, 0, 0) := by decide +kernel
theorem vsh_5 : xe_look (xc 249) 5 = some (.iload_n 3, 1, 0, 0, 0) := by decide +kernel
theorem vsh_6 : xe_look (xc 249) 6 = some (.if_icmp .ge 83, 3, 0, 0, 0) := by decide +kernel
theorem vsh_9 : xe_look (xc 249) 9 = some (.aload_n 0, 1, 0, 0, 0) := by decide +kernel
theorem vsh_10 : xe_look (xc 249) 10 = some (.getfield 53, 3, 12, 16, 1134) := by decide +kernel
theorem vsh_13 : xe_look (xc 249) 13 = some (.iconst 3, 1, 0, 0, 0) := by decide +kernel
theorem vsh_14 : xe_look (xc 249) 14 = some (.iload 4, 2, 0, 0, 0) := by decide +kernel
theorem vsh_16 : xe_look (xc 249) 16 = some (.imul, 1, 0, 0, 0) := by decide +kernel
theorem vsh_17 : xe_look (xc 249) 17 = some (.baload, 1, 0, 0, 0) := by decide +kernel
theorem vsh_18 : xe_look (xc 249) 18 = some (.sipush 255, 3, 0, 0, 0) := by decide +kernel
theorem vsh_21 : xe_look (xc 249) 21 = some (.iand, 1, 0, 0, 0) := by decide +kernel
theorem vsh_22 : xe_look (xc 249) 22 = some (.istore 5, 2, 0, 0, 0) := by decide +kernel
theorem vsh_24 : xe_look (xc 249) 24 = some (.aload_n 0, 1, 0, 0, 0) := by decide +kernel
theorem vsh_25 : xe_look (xc 249) 25 = some (.getfield 53, 3, 12, 16, 1134) := by decide +kernel
theorem vsh_28 : xe_look (xc 249) 28 = some (.iconst 3, 1, 0, 0, 0) := by decide +kernel
theorem vsh_29 : xe_look (xc 249) 29 = some (.iload 4, 2, 0, 0, 0) := by decide +kernel
theorem vsh_31 : xe_look (xc 249) 31 = some (.imul, 1, 0, 0, 0) := by decide +kernel
theorem vsh_32 : xe_look (xc 249) 32 = some (.iconst 1, 1, 0, 0, 0) := by decide +kernel
theorem vsh_33 : xe_look (xc 249) 33 = some (.iadd, 1, 0, 0, 0) := by decide +kernel
theorem vsh_34 : xe_look (xc 249) 34 = some (.baload, 1, 0, 0, 0) := by decide +kernel
theorem vsh_35 : xe_look (xc 249) 35 = some (.sipush 255, 3, 0, 0, 0) := by decide +kernel
theorem vsh_38 : xe_look (xc 249) 38 = some (.iand, 1, 0, 0, 0) := by decide +kernel
theorem vsh_39 : xe_look (xc 249) 39 = some (.istore 6, 2, 0, 0, 0) := by decide +kernel
theorem vsh_41 : xe_look (xc 249) 41 = some (.iload 5, 2, 0, 0, 0) := by decide +kernel
theorem vsh_43 : xe_look (xc 249) 43 = some (.iconst 4, 1, 0, 0, 0) := by decide +kernel
theorem vsh_44 : xe_look (xc 249) 44 = some (.if_icmp .gt 37, 3, 0, 0, 0) := by decide +kernel
theorem vsh_47 : xe_look (xc 249) 47 = some (.iload 6, 2, 0, 0, 0) := by decide +kernel
theorem vsh_49 : xe_look (xc 249) 49 = some (.iconst 4, 1, 0, 0, 0) := by decide +kernel
theorem vsh_50 : xe_look (xc 249) 50 = some (.if_icmp .gt 31, 3, 0, 0, 0) := by decide +kernel
theorem vsh_53 : xe_look (xc 249) 53 = some (.aload_n 0, 1, 0, 0, 0) := by decide +kernel
theorem vsh_54 : xe_look (xc 249) 54 = some (.iload_n 1, 1, 0, 0, 0) := by decide +kernel
theorem vsh_55 : xe_look (xc 249) 55 = some (.iload_n 2, 1, 0, 0, 0) := by decide +kernel
theorem vsh_56 : xe_look (xc 249) 56 = some (.iload 5, 2, 0, 0, 0) := by decide +kernel
theorem vsh_58 : xe_look (xc 249) 58 = some (.iload 6, 2, 0, 0, 0) := by decide +kernel
theorem vsh_60 : xe_look (xc 249) 60 = some (.invokevirtual 226, 3, 0, 250, 1116) := by decide +kernel
theorem vsh_63 : xe_look (xc 249) 63 = some (.aload_n 0, 1, 0, 0, 0) := by decide +kernel
theorem vsh_64 : xe_look (xc 249) 64 = some (.getfield 53, 3, 12, 16, 1134) := by decide +kernel
theorem vsh_67 : xe_look (xc 249) 67 = some (.iconst 3, 1, 0, 0, 0) := by decide +kernel
theorem vsh_68 : xe_look (xc 249) 68 = some (.iload 4, 2, 0, 0, 0) := by decide +kernel
theorem vsh_70 : xe_look (xc 249) 70 = some (.imul, 1, 0, 0, 0) := by decide +kernel
theorem vsh_71 : xe_look (xc 249) 71 = some (.iconst 2, 1, 0, 0, 0) := by decide +kernel
theorem vsh_72 : xe_look (xc 249) 72 = some (.iadd, 1, 0, 0, 0) := by decide +kernel
theorem vsh_73 : xe_look (xc 249) 73 = some (.baload, 1, 0, 0, 0) := by decide +kernel
theorem vsh_74 : xe_look (xc 249) 74 = some (.sipush 255, 3, 0, 0, 0) := by decide +kernel
theorem vsh_77 : xe_look (xc 249) 77 = some (.iand, 1, 0, 0, 0) := by decide +kernel
theorem vsh_78 : xe_look (xc 249) 78 = some (.if_icmp .eq 5, 3, 0, 0, 0) := by decide +kernel
theorem vsh_81 : xe_look (xc 249) 81 = some (.iconst 0, 1, 0, 0, 0) := by decide +kernel
theorem vsh_82 : xe_look (xc 249) 82 = some (.ireturn, 1, 0, 0, 0) := by decide +kernel
theorem vsh_83 : xe_look (xc 249) 83 = some (.iinc 4 1, 3, 0, 0, 0) := by decide +kernel
theorem vsh_86 : xe_look (xc 249) 86 = some (.goto (-83), 3, 0, 0, 0) := by decide +kernel
theorem vsh_89 : xe_look (xc 249) 89 = some (.iconst 1, 1, 0, 0, 0) := by decide +kernel
theorem vsh_90 : xe_look (xc 249) 90 = some (.ireturn, 1, 0, 0, 0) := by decide +kernel
theorem vsq_0 : xe_look (xc 250) 0 = some (.iload_n 3, 1, 0, 0, 0) := by decide +kernel
theorem vsq_1 : xe_look (xc 250) 1 = some (.istore 5, 2, 0, 0, 0) := by decide +kernel
theorem vsq_3 : xe_look (xc 250) 3 = some (.iload 4, 2, 0, 0, 0) := by decide +kernel
theorem vsq_5 : xe_look (xc 250) 5 = some (.istore 6, 2, 0, 0, 0) := by decide +kernel
theorem vsq_7 : xe_look (xc 250) 7 = some (.iconst 0, 1, 0, 0, 0) := by decide +kernel
theorem vsq_8 : xe_look (xc 250) 8 = some (.istore 7, 2, 0, 0, 0) := by decide +kernel
theorem vsq_10 : xe_look (xc 250) 10 = some (.iload 7, 2, 0, 0, 0) := by decide +kernel
theorem vsq_12 : xe_look (xc 250) 12 = some (.iload_n 2, 1, 0, 0, 0) := by decide +kernel
theorem vsq_13 : xe_look (xc 250) 13 = some (.iconst 4, 1, 0, 0, 0) := by decide +kernel
theorem vsq_14 : xe_look (xc 250) 14 = some (.irem, 1, 0, 0, 0) := by decide +kernel
theorem vsq_15 : xe_look (xc 250) 15 = some (.if_icmp .ge 23, 3, 0, 0, 0) := by decide +kernel
theorem vsq_18 : xe_look (xc 250) 18 = some (.iload 5, 2, 0, 0, 0) := by decide +kernel
theorem vsq_20 : xe_look (xc 250) 20 = some (.istore 8, 2, 0, 0, 0) := by decide +kernel
theorem vsq_22 : xe_look (xc 250) 22 = some (.iload 6, 2, 0, 0, 0) := by decide +kernel
theorem vsq_24 : xe_look (xc 250) 24 = some (.istore 5, 2, 0, 0, 0) := by decide +kernel
theorem vsq_26 : xe_look (xc 250) 26 = some (.iconst 4, 1, 0, 0, 0) := by decide +kernel
theorem vsq_27 : xe_look (xc 250) 27 = some (.iload 8, 2, 0, 0, 0) := by decide +kernel
theorem vsq_29 : xe_look (xc 250) 29 = some (.isub, 1, 0, 0, 0) := by decide +kernel
theorem vsq_30 : xe_look (xc 250) 30 = some (.istore 6, 2, 0, 0, 0) := by decide +kernel
theorem vsq_32 : xe_look (xc 250) 32 = some (.iinc 7 1, 3, 0, 0, 0) := by decide +kernel
theorem vsq_35 : xe_look (xc 250) 35 = some (.goto (-25), 3, 0, 0, 0) := by decide +kernel
theorem vsq_38 : xe_look (xc 250) 38 = some (.aload_n 0, 1, 0, 0, 0) := by decide +kernel
theorem vsq_39 : xe_look (xc 250) 39 = some (.getfield 49, 3, 12, 15, 1193) := by decide +kernel
theorem vsq_42 : xe_look (xc 250) 42 = some (.bipush 25, 2, 0, 0, 0) := by decide +kernel
theorem vsq_44 : xe_look (xc 250) 44 = some (.iload_n 1, 1, 0, 0, 0) := by decide +kernel
theorem vsq_45 : xe_look (xc 250) 45 = some (.imul, 1, 0, 0, 0) := by decide +kernel
theorem vsq_46 : xe_look (xc 250) 46 = some (.iconst 5, 1, 0, 0, 0) := by decide +kernel
theorem vsq_47 : xe_look (xc 250) 47 = some (.iload 6, 2, 0, 0, 0) := by decide +kernel
theorem vsq_49 : xe_look (xc 250) 49 = some (.imul, 1, 0, 0, 0) := by decide +kernel
theorem vsq_50 : xe_look (xc 250) 50 = some (.iadd, 1, 0, 0, 0) := by decide +kernel
theorem vsq_51 : xe_look (xc 250) 51 = some (.iload_n 2, 1, 0, 0, 0) := by decide +kernel
theorem vsq_52 : xe_look (xc 250) 52 = some (.iconst 3, 1, 0, 0, 0) := by decide +kernel
theorem vsq_53 : xe_look (xc 250) 53 = some (.if_icmp .le 10, 3, 0, 0, 0) := by decide +kernel
theorem vsq_56 : xe_look (xc 250) 56 = some (.iconst 4, 1, 0, 0, 0) := by decide +kernel
theorem vsq_57 : xe_look (xc 250) 57 = some (.iload 5, 2, 0, 0, 0) := by decide +kernel
theorem vsq_59 : xe_look (xc 250) 59 = some (.isub, 1, 0, 0, 0) := by decide +kernel
theorem vsq_60 : xe_look (xc 250) 60 = some (.goto 5, 3, 0, 0, 0) := by decide +kernel
theorem vsq_63 : xe_look (xc 250) 63 = some (.iload 5, 2, 0, 0, 0) := by decide +kernel
theorem vsq_65 : xe_look (xc 250) 65 = some (.iadd, 1, 0, 0, 0) := by decide +kernel
theorem vsq_66 : xe_look (xc 250) 66 = some (.baload, 1, 0, 0, 0) := by decide +kernel
theorem vsq_67 : xe_look (xc 250) 67 = some (.ireturn, 1, 0, 0, 0) := by decide +kernel
theorem vsy_0 : xe_look (xc 77) 0 = some (.iload_n 2, 1, 0, 0, 0) := by decide +kernel
theorem vsy_1 : xe_look (xc 77) 1 = some (.iconst 0, 1, 0, 0, 0) := by decide +kernel
theorem vsy_2 : xe_look (xc 77) 2 = some (.iconst 4, 1, 0, 0, 0) := by decide +kernel
theorem vsy_3 : xe_look (xc 77) 3 = some (.invokestatic 58, 3, 1, 124, 5) := by decide +kernel
theorem vsy_6 : xe_look (xc 77) 6 = some (.ifCond .eq 12, 3, 0, 0, 0) := by decide +kernel
theorem vsy_9 : xe_look (xc 77) 9 = some (.iload_n 3, 1, 0, 0, 0) := by decide +kernel
theorem vsy_10 : xe_look (xc 77) 10 = some (.iconst 0, 1, 0, 0, 0) := by decide +kernel
theorem vsy_11 : xe_look (xc 77) 11 = some (.iconst 4, 1, 0, 0, 0) := by decide +kernel
theorem vsy_12 : xe_look (xc 77) 12 = some (.invokestatic 58, 3, 1, 124, 5) := by decide +kernel
theorem vsy_15 : xe_look (xc 77) 15 = some (.ifCond .ne 5, 3, 0, 0, 0) := by decide +kernel
theorem vsy_18 : xe_look (xc 77) 18 = some (.iconst (-1), 1, 0, 0, 0) := by decide +kernel
theorem vsy_19 : xe_look (xc 77) 19 = some (.ireturn, 1, 0, 0, 0) := by decide +kernel
theorem vsy_20 : xe_look (xc 77) 20 = some (.iload_n 2, 1, 0, 0, 0) := by decide +kernel
theorem vsy_21 : xe_look (xc 77) 21 = some (.istore 4, 2, 0, 0, 0) := by decide +kernel
theorem vsy_23 : xe_look (xc 77) 23 = some (.iload_n 3, 1, 0, 0, 0) := by decide +kernel
theorem vsy_24 : xe_look (xc 77) 24 = some (.istore 5, 2, 0, 0, 0) := by decide +kernel
theorem vsy_26 : xe_look (xc 77) 26 = some (.iload_n 1, 1, 0, 0, 0) := by decide +kernel
theorem vsy_27 : xe_look (xc 77) 27 = some (.iconst 3, 1, 0, 0, 0) := by decide +kernel
theorem vsy_28 : xe_look (xc 77) 28 = some (.iand, 1, 0, 0, 0) := by decide +kernel
theorem vsy_29 : xe_look (xc 77) 29 = some (.istore 6, 2, 0, 0, 0) := by decide +kernel
theorem vsy_31 : xe_look (xc 77) 31 = some (.iload 6, 2, 0, 0, 0) := by decide +kernel
theorem vsy_33 : xe_look (xc 77) 33 = some (.ifCond .le 23, 3, 0, 0, 0) := by decide +kernel
theorem vsy_36 : xe_look (xc 77) 36 = some (.iload 4, 2, 0, 0, 0) := by decide +kernel
theorem vsy_38 : xe_look (xc 77) 38 = some (.istore 7, 2, 0, 0, 0) := by decide +kernel
theorem vsy_40 : xe_look (xc 77) 40 = some (.iload 5, 2, 0, 0, 0) := by decide +kernel
theorem vsy_42 : xe_look (xc 77) 42 = some (.istore 4, 2, 0, 0, 0) := by decide +kernel
theorem vsy_44 : xe_look (xc 77) 44 = some (.iconst 4, 1, 0, 0, 0) := by decide +kernel
theorem vsy_45 : xe_look (xc 77) 45 = some (.iload 7, 2, 0, 0, 0) := by decide +kernel
theorem vsy_47 : xe_look (xc 77) 47 = some (.isub, 1, 0, 0, 0) := by decide +kernel
theorem vsy_48 : xe_look (xc 77) 48 = some (.istore 5, 2, 0, 0, 0) := by decide +kernel
theorem vsy_50 : xe_look (xc 77) 50 = some (.iinc 6 (-1), 3, 0, 0, 0) := by decide +kernel
theorem vsy_53 : xe_look (xc 77) 53 = some (.goto (-22), 3, 0, 0, 0) := by decide +kernel
theorem vsy_56 : xe_look (xc 77) 56 = some (.iload_n 1, 1, 0, 0, 0) := by decide +kernel
theorem vsy_57 : xe_look (xc 77) 57 = some (.iconst 4, 1, 0, 0, 0) := by decide +kernel
theorem vsy_58 : xe_look (xc 77) 58 = some (.if_icmp .lt 9, 3, 0, 0, 0) := by decide +kernel
theorem vsy_61 : xe_look (xc 77) 61 = some (.iconst 4, 1, 0, 0, 0) := by decide +kernel
theorem vsy_62 : xe_look (xc 77) 62 = some (.iload 4, 2, 0, 0, 0) := by decide +kernel
theorem vsy_64 : xe_look (xc 77) 64 = some (.isub, 1, 0, 0, 0) := by decide +kernel
theorem vsy_65 : xe_look (xc 77) 65 = some (.istore 4, 2, 0, 0, 0) := by decide +kernel
theorem vsy_67 : xe_look (xc 77) 67 = some (.aload_n 0, 1, 0, 0, 0) := by decide +kernel
theorem vsy_68 : xe_look (xc 77) 68 = some (.getfield 15, 3, 7, 1, 910) := by decide +kernel
theorem vsy_71 : xe_look (xc 77) 71 = some (.iload 5, 2, 0, 0, 0) := by decide +kernel
theorem vsy_73 : xe_look (xc 77) 73 = some (.iconst 5, 1, 0, 0, 0) := by decide +kernel
theorem vsy_74 : xe_look (xc 77) 74 = some (.imul, 1, 0, 0, 0) := by decide +kernel
theorem vsy_75 : xe_look (xc 77) 75 = some (.iload 4, 2, 0, 0, 0) := by decide +kernel
theorem vsy_77 : xe_look (xc 77) 77 = some (.iadd, 1, 0, 0, 0) := by decide +kernel
theorem vsy_78 : xe_look (xc 77) 78 = some (.iaload, 1, 0, 0, 0) := by decide +kernel
theorem vsy_79 : xe_look (xc 77) 79 = some (.ireturn, 1, 0, 0, 0) := by decide +kernel
theorem vth_0 : xe_look (xc 262) 0 = some (.lload_n 0, 1, 0, 0, 0) := by decide +kernel
theorem vth_1 : xe_look (xc 262) 1 = some (.lload_n 2, 1, 0, 0, 0) := by decide +kernel
theorem vth_2 : xe_look (xc 262) 2 = some (.invokestatic 430, 3, 0, 192, 1283) := by decide +kernel
theorem vth_5 : xe_look (xc 262) 5 = some (.lstore 5, 2, 0, 0, 0) := by decide +kernel
theorem vth_7 : xe_look (xc 262) 7 = some (.iload 4, 2, 0, 0, 0) := by decide +kernel
theorem vth_9 : xe_look (xc 262) 9 = some (.ifCond .ne 10, 3, 0, 0, 0) := by decide +kernel
theorem vth_12 : xe_look (xc 262) 12 = some (.lload_n 0, 1, 0, 0, 0) := by decide +kernel
theorem vth_13 : xe_look (xc 262) 13 = some (.lload 5, 2, 0, 0, 0) := by decide +kernel
theorem vth_15 : xe_look (xc 262) 15 = some (.ldiv, 1, 0, 0, 0) := by decide +kernel
theorem vth_16 : xe_look (xc 262) 16 = some (.goto 7, 3, 0, 0, 0) := by decide +kernel
theorem vth_19 : xe_look (xc 262) 19 = some (.lload_n 2, 1, 0, 0, 0) := by decide +kernel
theorem vth_20 : xe_look (xc 262) 20 = some (.lload 5, 2, 0, 0, 0) := by decide +kernel
theorem vth_22 : xe_look (xc 262) 22 = some (.ldiv, 1, 0, 0, 0) := by decide +kernel
theorem vth_23 : xe_look (xc 262) 23 = some (.lreturn, 1, 0, 0, 0) := by decide +kernel
theorem vts_0 : xe_look (xc 153) 0 = some (.iconst 0, 1, 0, 0, 0) := by decide +kernel
theorem vts_1 : xe_look (xc 153) 1 = some (.istore 4, 2, 0, 0, 0) := by decide +kernel
theorem vts_3 : xe_look (xc 153) 3 = some (.iload 4, 2, 0, 0, 0) := by decide +kernel
theorem vts_5 : xe_look (xc 153) 5 = some (.iload_n 3, 1, 0, 0, 0) := by decide +kernel
theorem vts_6 : xe_look (xc 153) 6 = some (.if_icmp .ge 50, 3, 0, 0, 0) := by decide +kernel
theorem vts_9 : xe_look (xc 153) 9 = some (.aload_n 1, 1, 0, 0, 0) := by decide +kernel
theorem vts_10 : xe_look (xc 153) 10 = some (.iload_n 2, 1, 0, 0, 0) := by decide +kernel
theorem vts_11 : xe_look (xc 153) 11 = some (.aload_n 0, 1, 0, 0, 0) := by decide +kernel
theorem vts_12 : xe_look (xc 153) 12 = some (.getfield 9, 3, 11, 0, 982) := by decide +kernel
theorem vts_15 : xe_look (xc 153) 15 = some (.iconst 3, 1, 0, 0, 0) := by decide +kernel
theorem vts_16 : xe_look (xc 153) 16 = some (.iload 4, 2, 0, 0, 0) := by decide +kernel
theorem vts_18 : xe_look (xc 153) 18 = some (.imul, 1, 0, 0, 0) := by decide +kernel
theorem vts_19 : xe_look (xc 153) 19 = some (.iaload, 1, 0, 0, 0) := by decide +kernel
theorem vts_20 : xe_look (xc 153) 20 = some (.aload_n 0, 1, 0, 0, 0) := by decide +kernel
theorem vts_21 : xe_look (xc 153) 21 = some (.getfield 9, 3, 11, 0, 982) := by decide +kernel
theorem vts_24 : xe_look (xc 153) 24 = some (.iconst 3, 1, 0, 0, 0) := by decide +kernel
theorem vts_25 : xe_look (xc 153) 25 = some (.iload 4, 2, 0, 0, 0) := by decide +kernel
theorem vts_27 : xe_look (xc 153) 27 = some (.imul, 1, 0, 0, 0) := by decide +kernel
theorem vts_28 : xe_look (xc 153) 28 = some (.iconst 1, 1, 0, 0, 0) := by decide +kernel
theorem vts_29 : xe_look (xc 153) 29 = some (.iadd, 1, 0, 0, 0) := by decide +kernel
theorem vts_30 : xe_look (xc 153) 30 = some (.iaload, 1, 0, 0, 0) := by decide +kernel
theorem vts_31 : xe_look (xc 153) 31 = some (.invokevirtual 176, 3, 0, 77, 987) := by decide +kernel
theorem vts_34 : xe_look (xc 153) 34 = some (.aload_n 0, 1, 0, 0, 0) := by decide +kernel
theorem vts_35 : xe_look (xc 153) 35 = some (.getfield 9, 3, 11, 0, 982) := by decide +kernel
theorem vts_38 : xe_look (xc 153) 38 = some (.iconst 3, 1, 0, 0, 0) := by decide +kernel
theorem vts_39 : xe_look (xc 153) 39 = some (.iload 4, 2, 0, 0, 0) := by decide +kernel
theorem vts_41 : xe_look (xc 153) 41 = some (.imul, 1, 0, 0, 0) := by decide +kernel
theorem vts_42 : xe_look (xc 153) 42 = some (.iconst 2, 1, 0, 0, 0) := by decide +kernel
theorem vts_43 : xe_look (xc 153) 43 = some (.iadd, 1, 0, 0, 0) := by decide +kernel
theorem vts_44 : xe_look (xc 153) 44 = some (.iaload, 1, 0, 0, 0) := by decide +kernel
theorem vts_45 : xe_look (xc 153) 45 = some (.if_icmp .eq 5, 3, 0, 0, 0) := by decide +kernel
theorem vts_48 : xe_look (xc 153) 48 = some (.iconst 0, 1, 0, 0, 0) := by decide +kernel
theorem vts_49 : xe_look (xc 153) 49 = some (.ireturn, 1, 0, 0, 0) := by decide +kernel
theorem vts_50 : xe_look (xc 153) 50 = some (.iinc 4 1, 3, 0, 0, 0) := by decide +kernel
theorem vts_53 : xe_look (xc 153) 53 = some (.goto (-50), 3, 0, 0, 0) := by decide +kernel
theorem vts_56 : xe_look (xc 153) 56 = some (.iconst 1, 1, 0, 0, 0) := by decide +kernel
theorem vts_57 : xe_look (xc 153) 57 = some (.ireturn, 1, 0, 0, 0) := by decide +kernel
def gS : Nat → Nat → Nat → Nat
  | 0, a, _ => a
  | f + 1, a, b => if b = 0 then a else gS f b (a % b)
def gD : Nat → Nat → Nat → Prop
  | 0, _, b => b = 0
  | f + 1, a, b => b = 0 ∨ gD f b (a % b)
theorem gD_p : ∀ f a b : Nat, b ≤ a → a * b < 2 ^ f → gD f a b := by
  intro f
  induction f with
  | zero =>
    intro a b h1 h2
    have h2 : a * b < 1 := h2
    have h3 : a * b = 0 := by omega
    rcases Nat.mul_eq_zero.mp h3 with h | h
    · show b = 0
      omega
    · exact h
  | succ f ih =>
    intro a b h1 h2
    by_cases hb : b = 0
    · exact Or.inl hb
    · refine Or.inr (ih _ _ (Nat.le_of_lt (Nat.mod_lt _ (by omega))) ?_)
      have e1 := Nat.div_add_mod a b
      have e2 : 1 ≤ a / b := (Nat.le_div_iff_mul_le (by omega)).mpr (by omega)
      have e3 : b * 1 ≤ b * (a / b) := Nat.mul_le_mul_left b e2
      have e4 := Nat.mod_lt a (show 0 < b by omega)
      have e5 : b * (2 * (a % b)) < b * a := Nat.mul_lt_mul_of_pos_left (by omega) (by omega)
      rw [Nat.mul_comm b a, Nat.mul_left_comm] at e5
      rw [Nat.pow_succ] at h2
      omega
theorem gD_s {f a b : Nat} (h : a * b < 2 ^ f) : gD (f + 1) a b := by
  by_cases hb : b = 0
  · exact Or.inl hb
  · refine Or.inr (gD_p f _ _ (Nat.le_of_lt (Nat.mod_lt _ (by omega))) ?_)
    have := Nat.mul_le_mul_left b (Nat.mod_le a b)
    rw [Nat.mul_comm b a] at this
    omega
theorem gS_pos : ∀ f a b : Nat, 0 < a ∨ 0 < b → gD f a b → 0 < gS f a b := by
  intro f
  induction f with
  | zero =>
    intro a b h1 h2
    have h2 : b = 0 := h2
    show 0 < a
    omega
  | succ f ih =>
    intro a b h1 h2
    unfold gS
    by_cases hb : b = 0
    · rw [if_pos hb]
      omega
    · rw [if_neg hb]
      exact ih _ _ (by omega) (h2.resolve_left hb)
theorem gS_le : ∀ f a b : Nat, gS f a b ≤ max a b := by
  intro f
  induction f with
  | zero => intro a b; show a ≤ _; omega
  | succ f ih =>
    intro a b
    unfold gS
    by_cases hb : b = 0
    · rw [if_pos hb]; omega
    · rw [if_neg hb]
      have := ih b (a % b)
      have := Nat.mod_lt a (show 0 < b by omega)
      omega
def qtx : Nat → Int → Int → Int
  | 0, a, _ => a
  | r + 1, a, b => qtx r b (4 - a)
def qty : Nat → Int → Int → Int
  | 0, _, b => b
  | r + 1, a, b => qty r b (4 - a)
theorem qt_b : ∀ (r : Nat) (a b : Int), 0 ≤ a ∧ a ≤ 4 → 0 ≤ b ∧ b ≤ 4 → (0 ≤ qtx r a b ∧ qtx r a b ≤ 4) ∧ 0 ≤ qty r a b ∧ qty r a b ≤ 4 := by
  intro r
  induction r with
  | zero => intro a b h1 h2; exact ⟨h1, h2⟩
  | succ r ih => intro a b h1 h2; exact ih b (4 - a) h2 (by omega)
def qdI (w : Nat) (x y : Int) : Int := 5 * qty (w % 4) x y + (if 4 ≤ w then 4 - qtx (w % 4) x y else qtx (w % 4) x y)
theorem qdI_b {w : Nat} {x y : Int} (h1 : 0 ≤ x ∧ x ≤ 4) (h2 : 0 ≤ y ∧ y ≤ 4) : 0 ≤ qdI w x y ∧ qdI w x y ≤ 24 := by
  have := qt_b (w % 4) x y h1 h2
  unfold qdI
  split
  · omega
  · omega
def okS (pic t : tC) (w k : Nat) : Bool := decide ((0 ≤ t (3 * k) ∧ t (3 * k) ≤ 4) ∧ (0 ≤ t (3 * k + 1) ∧ t (3 * k + 1) ≤ 4) ∧ pic (qdI w (t (3 * k)) (t (3 * k + 1))).toNat = t (3 * k + 2))
def tSb (pic t : tC) (w n : Nat) : Bool := (List.range n).all (fun k => okS pic t w k)
theorem tS_1 {pic t : tC} {w n : Nat} (h : ∀ k, k < n → okS pic t w k = true) : tSb pic t w n = true := List.all_eq_true.mpr (fun k hk => h k (List.mem_range.mp hk))
theorem tS_0 {pic t : tC} {w n k : Nat} (hk : k < n) (h : okS pic t w k = false) : tSb pic t w n = false := by
  cases e : tSb pic t w n with
  | false => rfl
  | true =>
    have := List.all_eq_true.mp e k (List.mem_range.mpr hk)
    rw [h] at this
    cases this
theorem okS_1 {pic t : tC} {w k : Nat} (h1 : 0 ≤ t (3 * k) ∧ t (3 * k) ≤ 4) (h2 : 0 ≤ t (3 * k + 1) ∧ t (3 * k + 1) ≤ 4) (h3 : pic (qdI w (t (3 * k)) (t (3 * k + 1))).toNat = t (3 * k + 2)) : okS pic t w k = true := decide_eq_true ⟨h1, h2, h3⟩
theorem okS_0 {pic t : tC} {w k : Nat} (h : ¬ ((0 ≤ t (3 * k) ∧ t (3 * k) ≤ 4) ∧ (0 ≤ t (3 * k + 1) ∧ t (3 * k + 1) ≤ 4) ∧ pic (qdI w (t (3 * k)) (t (3 * k + 1))).toNat = t (3 * k + 2))) : okS pic t w k = false := decide_eq_false h
theorem tSb_e {pic pic' t t' : tC} {w n : Nat} (hp : ∀ j, j < 25 → pic j = pic' j) (ht : ∀ k, k < 3 * n → t k = t' k) : tSb pic t w n = tSb pic' t' w n := by
  have key : ∀ k, k < n → okS pic t w k = okS pic' t' w k := fun k hk => by
    unfold okS
    rw [ht (3 * k) (by omega), ht (3 * k + 1) (by omega), ht (3 * k + 2) (by omega)]
    apply decide_eq_decide.mpr
    constructor
    · rintro ⟨h1, h2, h3⟩
      have := qdI_b (w := w) h1 h2
      exact ⟨h1, h2, by rw [← hp _ (by omega)]; exact h3⟩
    · rintro ⟨h1, h2, h3⟩
      have := qdI_b (w := w) h1 h2
      exact ⟨h1, h2, by rw [hp _ (by omega)]; exact h3⟩
  cases e : tSb pic' t' w n with
  | true => exact tS_1 (fun k hk => (key k hk).trans (List.all_eq_true.mp e k (List.mem_range.mpr hk)))
  | false =>
    cases e2 : tSb pic t w n with
    | false => rfl
    | true =>
      have e3 : tSb pic' t' w n = true := tS_1 (fun k hk => (key k hk).symm.trans (List.all_eq_true.mp e2 k (List.mem_range.mpr hk)))
      rw [e] at e3
      cases e3
/-- what the ways shown come to -/
def oS (b : Nat → Bool) (a : Nat → Int) : Nat → Int
  | 0 => 0
  | k + 1 => oS b a k + (if b k then a k else 0)
theorem oS_b {b : Nat → Bool} {a : Nat → Int} {B : Int} (hB : 0 ≤ B) (ha : ∀ k, 0 ≤ a k ∧ a k ≤ B) : ∀ k : Nat, 0 ≤ oS b a k ∧ oS b a k ≤ B * k := by
  intro k
  induction k with
  | zero => exact ⟨by show (0 : Int) ≤ 0; omega, by show (0 : Int) ≤ B * 0; omega⟩
  | succ k ih =>
    unfold oS
    have e : B * ((k + 1 : Nat) : Int) = B * k + B := by rw [Int.natCast_add, Int.mul_add]; simp
    have := ha k
    split
    · omega
    · omega
theorem a255 : ∀ n : Nat, n < 256 → (Int32.ofInt ((n : Int) - 128) &&& Int32.ofInt 255) = Int32.ofInt (((n : Int) - 128) % 256) := by decide +kernel

theorem oLT {e : Int} (h0 : -9223372036854775808 ≤ e) (h1 : e ≤ 9223372036854775807) : (Int64.ofInt e).toInt = e := Int64.toInt_ofInt_of_le (by omega) (by omega)
theorem dv_oL {a b : Int} (ha : 0 ≤ a ∧ a ≤ 9223372036854775807) (hb : 0 < b ∧ b ≤ 9223372036854775807) : Int64.ofInt a / Int64.ofInt b = Int64.ofInt (a / b) := by
  apply Int64.toInt_inj.mp
  have e0 : 0 ≤ a / b := Int.ediv_nonneg ha.1 (by omega)
  have e1 : a / b ≤ a := Int.ediv_le_self _ ha.1
  rw [Int64.toInt_div, oLT (by omega) (by omega), oLT (by omega) (by omega), oLT (by omega) (by omega), Int.tdiv_eq_ediv_of_nonneg ha.1]
  exact Int.bmod_eq_of_le (by omega) (by omega)
theorem ne_oL {b : Int} (h : -9223372036854775808 ≤ b ∧ b ≤ 9223372036854775807) (hb : b ≠ 0) : ¬ Int64.ofInt b = 0 := fun z => hb (by
  have := congrArg Int64.toInt z
  rw [oLT h.1 h.2] at this
  exact this)
def oL (a : Int) : pv := .inr (.inl (Int64.ofInt a))
section OL
variable {d x y : Nat} {lv : List (Nat × pv)} {h : pH} {r : List pv}
theorem pq_ld {a b : Int} (ha : 0 ≤ a ∧ a ≤ 9223372036854775807) (hb : 0 < b ∧ b ≤ 9223372036854775807) : px_push eL d none .ldiv x y lv (.inr (.inl (Int64.ofInt b)) :: .inr (.inl (Int64.ofInt a)) :: r) h = some (.inr (.inl (Int64.ofInt (a / b))) :: r) := by
  show (if Int64.ofInt b = 0 then none else some ((.inr (.inl (Int64.ofInt a / Int64.ofInt b)) : pv) :: r)) = _
  rw [if_neg (ne_oL ⟨by omega, hb.2⟩ (by omega)), dv_oL ha hb]
theorem pq_lr {a b : Int} (ha : 0 ≤ a ∧ a ≤ 9223372036854775807) (hb : 0 < b ∧ b ≤ 9223372036854775807) : px_push eL d none .lrem x y lv (.inr (.inl (Int64.ofInt b)) :: .inr (.inl (Int64.ofInt a)) :: r) h = some (.inr (.inl (Int64.ofInt (a % b))) :: r) := by
  show (if Int64.ofInt b = 0 then none else some ((.inr (.inl (Int64.ofInt a - Int64.ofInt a / Int64.ofInt b * Int64.ofInt b)) : pv) :: r)) = _
  rw [if_neg (ne_oL ⟨by omega, hb.2⟩ (by omega)), dv_oL ha hb, ← Int64.ofInt_mul, ← Int64.ofInt_sub, Int.emod_def, Int.mul_comm b]
theorem pq_l0 {a : Int} (ha : a = 0) : px_push eL d none .lcmp x y lv (.inr (.inl (Int64.ofNat 0)) :: .inr (.inl (Int64.ofInt a)) :: r) h = some (oI 0 :: r) := by
  subst ha
  rfl
theorem pq_l1 {a : Int} (ha : 0 < a ∧ a ≤ 9223372036854775807) : px_push eL d none .lcmp x y lv (.inr (.inl (Int64.ofNat 0)) :: .inr (.inl (Int64.ofInt a)) :: r) h = some (oI 1 :: r) := by
  show some ((.inl (lg_cmp (Int64.ofInt a) (Int64.ofNat 0)) : pv) :: r) = _
  unfold lg_cmp
  rw [if_pos]
  · rfl
  · apply Int64.lt_iff_toInt_lt.mpr
    rw [oLT (by omega) (by omega)]
    exact ha.1
theorem pq_il {a : Int} (ha : -2147483648 ≤ a ∧ a ≤ 2147483647) : px_push eL d none .i2l x y lv (oI a :: r) h = some (.inr (.inl (Int64.ofInt a)) :: r) := by
  show some ((.inr (.inl (Int32.toInt64 (Int32.ofInt a))) : pv) :: r) = _
  rw [show Int32.toInt64 (Int32.ofInt a) = Int64.ofInt a from by
    apply Int64.toInt_inj.mp
    rw [Int32.toInt_toInt64, oT ha.1 ha.2, oLT (by omega) (by omega)]]
theorem pq_li {a : Int} : px_push eL d none .l2i x y lv (.inr (.inl (Int64.ofInt a)) :: r) h = some (oI a :: r) := by
  show some ((.inl (Int64.toInt32 (Int64.ofInt a)) : pv) :: r) = _
  rw [show Int64.toInt32 (Int64.ofInt a) = Int32.ofInt a from Int64.toInt32_ofInt ..]
theorem pq_lb {i : Nat} {a : Int} (hd : 1 ≤ d) (hs : px_sum (.inr (.inl (Int64.ofInt a)) :: r) ≤ 8) (ha : 0 ≤ a ∧ a ≤ 9223372036854775807) : px_push eL d none (.invokestatic i) 4 y lv (.inr (.inl (Int64.ofInt a)) :: r) h = some (.inr (.inl (Int64.ofInt a)) :: r) := by
  show (if 1 ≤ d ∧ px_sum (.inr (.inl (Int64.ofInt a)) :: r) ≤ 8 then px_m1 xe_abs (.inr (.inl (Int64.ofInt a)) :: r) else none) = _
  rw [if_pos ⟨hd, hs⟩]
  show some ((.inr (.inl (xe_abs (Int64.ofInt a))) : pv) :: r) = _
  unfold xe_abs
  by_cases q : a = 0
  · subst q
    rfl
  · rw [if_pos]
    apply Int64.lt_iff_toInt_lt.mpr
    rw [oLT (by omega) (by omega)]
    show (0 : Int) < a
    omega
theorem pq_25 {a : Int} (ha : -128 ≤ a ∧ a ≤ 127) : px_push eL d none .iand x y lv (oI 255 :: oI a :: r) h = some (oI (a % 256) :: r) := by
  have := a255 (a + 128).toNat (by omega)
  rw [show (((a + 128).toNat : Int) - 128) = a by omega] at this
  show some ((.inl (Int32.ofInt a &&& Int32.ofInt 255) : pv) :: r) = _
  rw [this]
end OL
theorem ybeo_0 : eL[0]? = some (0, 11) := by decide +kernel
theorem ybeo_196 : eL[196]? = some (0, 12) := by decide +kernel
theorem ybgu_1 : eG (cn 1) = (0, 255, []) := by decide +kernel
theorem ybch_0_0 : (eG (cn 0 + 0)).2.2 = [2] := by decide +kernel
theorem ybcq_0_0 {d i : Nat} {lv : List (Nat × pv)} {r : List pv} {g : pH} (hG : g_I eG g) : px_push eL d none (.getfield i) 11 0 lv (pvR 0 :: r) g = some (pvR 1 :: r) := pget ybeo_0 (gI_r (r := 1) hG ybeo_0 (Nat.le_of_ble_eq_true rfl) (y := 0) rfl ybch_0_0)
theorem ybch_196_15 : (eG (cn 196 + 15)).2.2 = [211] := by decide +kernel
theorem ybcq_196_15 {d i : Nat} {lv : List (Nat × pv)} {r : List pv} {g : pH} (hG : g_I eG g) : px_push eL d none (.getfield i) 12 15 lv (pvR 196 :: r) g = some (pvR 210 :: r) := pget ybeo_196 (gI_r (r := 210) hG ybeo_196 (Nat.le_of_ble_eq_true rfl) (y := 15) rfl ybch_196_15)
theorem ybch_196_16 : (eG (cn 196 + 16)).2.2 = [212] := by decide +kernel
theorem ybcq_196_16 {d i : Nat} {lv : List (Nat × pv)} {r : List pv} {g : pH} (hG : g_I eG g) : px_push eL d none (.getfield i) 12 16 lv (pvR 196 :: r) g = some (pvR 211 :: r) := pget ybeo_196 (gI_r (r := 211) hG ybeo_196 (Nat.le_of_ble_eq_true rfl) (y := 16) rfl ybch_196_16)
theorem ybez_1 : eL[1]? = some (1, 260) := by decide +kernel
theorem ybez_210 : eL[210]? = some (2, 800) := by decide +kernel
theorem ybez_211 : eL[211]? = some (2, 260) := by decide +kernel
theorem vcd_loop {d : Nat} {g : pH} {P : Option pv × pH → Prop} : ∀ (f : Nat) (k : Int) (a b : Nat) (lv : List (Nat × pv)), 0 ≤ k → k + f = 100 → a ≤ 9000000000000000000 → b ≤ 9000000000000000000 → P (some (.inr (.inl (Int64.ofInt ((gS f a b : Nat) : Int)))), g) → px_lg lv 4 = some (.inr (.inl (Int64.ofInt ((a : Nat) : Int)))) → px_lg lv 6 = some (.inr (.inl (Int64.ofInt ((b : Nat) : Int)))) → px_lg lv 8 = some (oI k) → t_X d 112 9 lv [] g P := by
  intro f
  induction f with
  | zero =>
    intro k a b lv hk0 hk ha hb9 hP l4 l6 l8
    refine t_0 vcd_9 rfl (ld_i l8) ?_
    refine t_0 vcd_11 rfl (pq_b (by decide)) ?_
    refine tb_ge vcd_13 (by decide) ⟨by omega, by omega⟩ ⟨by omega, by omega⟩ (fun c1 => ?_) (fun c1 => absurd c1 (by omega))
    show t_X d 112 44 lv [] g P
    refine t_0 vcd_44 rfl (ld_l l4) ?_
    refine t_5 vcd_46 rfl rfl ?_
    exact hP
  | succ f ih =>
    intro k a b lv hk0 hk ha hb9 hP l4 l6 l8
    by_cases hb : b = 0
    · skip
      refine t_0 vcd_9 rfl (ld_i l8) ?_
      refine t_0 vcd_11 rfl (pq_b (by decide)) ?_
      refine tb_ge vcd_13 (by decide) ⟨by omega, by omega⟩ ⟨by omega, by omega⟩ (fun c1 => absurd c1 (by omega)) (fun c1 => ?_)
      show t_X d 112 16 lv [] g P
      refine t_0 vcd_16 rfl (ld_l l6) ?_
      refine t_0 vcd_18 rfl rfl ?_
      refine t_0 vcd_19 rfl (pq_l0 (by omega)) ?_
      refine tz_eq vcd_20 (by decide) ⟨by omega, by omega⟩ (fun c2 => ?_) (fun c2 => absurd c2 (by omega))
      show t_X d 112 44 lv [] g P
      refine t_0 vcd_44 rfl (ld_l l4) ?_
      refine t_5 vcd_46 rfl rfl ?_
      unfold gS at hP
      rw [if_pos hb] at hP
      exact hP
    · skip
      refine t_0 vcd_9 rfl (ld_i l8) ?_
      refine t_0 vcd_11 rfl (pq_b (by decide)) ?_
      refine tb_ge vcd_13 (by decide) ⟨by omega, by omega⟩ ⟨by omega, by omega⟩ (fun c1 => absurd c1 (by omega)) (fun c1 => ?_)
      show t_X d 112 16 lv [] g P
      refine t_0 vcd_16 rfl (ld_l l6) ?_
      refine t_0 vcd_18 rfl rfl ?_
      refine t_0 vcd_19 rfl (pq_l1 ⟨by omega, by omega⟩) ?_
      refine tz_eq vcd_20 (by decide) ⟨by omega, by omega⟩ (fun c2 => absurd c2 (by omega)) (fun c2 => ?_)
      show t_X d 112 23 lv [] g P
      refine t_0 vcd_23 rfl (ld_l l4) ?_
      refine t_0 vcd_25 rfl (ld_l l6) ?_
      refine t_0 vcd_27 rfl (pq_lr ⟨by omega, by omega⟩ ⟨by omega, by omega⟩) ?_
      refine t_2 vcd_28 rfl (w := (px_s2 lv 9 (.inr (.inl (Int64.ofInt ((a % b : Nat) : Int)))), [])) rfl ?_
      replace l4 : px_lg (px_s2 lv 9 (.inr (.inl (Int64.ofInt ((a % b : Nat) : Int))))) 4 = some (.inr (.inl (Int64.ofInt ((a : Nat) : Int)))) := s2_ne (by decide) (fun z => absurd z (by decide)) l4
      replace l6 : px_lg (px_s2 lv 9 (.inr (.inl (Int64.ofInt ((a % b : Nat) : Int))))) 6 = some (.inr (.inl (Int64.ofInt ((b : Nat) : Int)))) := s2_ne (by decide) (fun z => absurd z (by decide)) l6
      replace l8 : px_lg (px_s2 lv 9 (.inr (.inl (Int64.ofInt ((a % b : Nat) : Int))))) 8 = some (oI (k)) := s2_ne (by decide) (fun _ => rfl) l8
      have l9 : px_lg (px_s2 lv 9 (.inr (.inl (Int64.ofInt ((a % b : Nat) : Int))))) 9 = some (.inr (.inl (Int64.ofInt ((a % b : Nat) : Int)))) := s2_eq
      generalize px_s2 lv 9 (.inr (.inl (Int64.ofInt ((a % b : Nat) : Int)))) = lv3 at l4 l6 l8 l9 ⊢
      show t_X d 112 30 lv3 [] g P
      refine t_0 vcd_30 rfl (ld_l l6) ?_
      refine t_2 vcd_32 rfl (w := (px_s2 lv3 4 (.inr (.inl (Int64.ofInt ((b : Nat) : Int)))), [])) rfl ?_
      replace l6 : px_lg (px_s2 lv3 4 (.inr (.inl (Int64.ofInt ((b : Nat) : Int))))) 6 = some (.inr (.inl (Int64.ofInt ((b : Nat) : Int)))) := s2_ne (by decide) (fun z => absurd z (by decide)) l6
      replace l8 : px_lg (px_s2 lv3 4 (.inr (.inl (Int64.ofInt ((b : Nat) : Int))))) 8 = some (oI (k)) := s2_ne (by decide) (fun _ => rfl) l8
      replace l9 : px_lg (px_s2 lv3 4 (.inr (.inl (Int64.ofInt ((b : Nat) : Int))))) 9 = some (.inr (.inl (Int64.ofInt ((a % b : Nat) : Int)))) := s2_ne (by decide) (fun z => absurd z (by decide)) l9
      have l4 : px_lg (px_s2 lv3 4 (.inr (.inl (Int64.ofInt ((b : Nat) : Int))))) 4 = some (.inr (.inl (Int64.ofInt ((b : Nat) : Int)))) := s2_eq
      generalize px_s2 lv3 4 (.inr (.inl (Int64.ofInt ((b : Nat) : Int)))) = lv4 at l6 l8 l9 l4 ⊢
      show t_X d 112 34 lv4 [] g P
      refine t_0 vcd_34 rfl (ld_l l9) ?_
      refine t_2 vcd_36 rfl (w := (px_s2 lv4 6 (.inr (.inl (Int64.ofInt ((a % b : Nat) : Int)))), [])) rfl ?_
      replace l8 : px_lg (px_s2 lv4 6 (.inr (.inl (Int64.ofInt ((a % b : Nat) : Int))))) 8 = some (oI (k)) := s2_ne (by decide) (fun _ => rfl) l8
      replace l9 : px_lg (px_s2 lv4 6 (.inr (.inl (Int64.ofInt ((a % b : Nat) : Int))))) 9 = some (.inr (.inl (Int64.ofInt ((a % b : Nat) : Int)))) := s2_ne (by decide) (fun z => absurd z (by decide)) l9
      replace l4 : px_lg (px_s2 lv4 6 (.inr (.inl (Int64.ofInt ((a % b : Nat) : Int))))) 4 = some (.inr (.inl (Int64.ofInt ((b : Nat) : Int)))) := s2_ne (by decide) (fun z => absurd z (by decide)) l4
      have l6 : px_lg (px_s2 lv4 6 (.inr (.inl (Int64.ofInt ((a % b : Nat) : Int))))) 6 = some (.inr (.inl (Int64.ofInt ((a % b : Nat) : Int)))) := s2_eq
      generalize px_s2 lv4 6 (.inr (.inl (Int64.ofInt ((a % b : Nat) : Int)))) = lv5 at l8 l9 l4 l6 ⊢
      show t_X d 112 38 lv5 [] g P
      refine t_2 vcd_38 rfl (w := (px_s1 lv5 8 (oI (k + 1)), [])) (pq_inc l8 (by decide)) ?_
      replace l9 : px_lg (px_s1 lv5 8 (oI (k + 1))) 9 = some (.inr (.inl (Int64.ofInt ((a % b : Nat) : Int)))) := s1_ne (by decide) (fun z => absurd z (by decide)) l9
      replace l4 : px_lg (px_s1 lv5 8 (oI (k + 1))) 4 = some (.inr (.inl (Int64.ofInt ((b : Nat) : Int)))) := s1_ne (by decide) (fun z => absurd z (by decide)) l4
      replace l6 : px_lg (px_s1 lv5 8 (oI (k + 1))) 6 = some (.inr (.inl (Int64.ofInt ((a % b : Nat) : Int)))) := s1_ne (by decide) (fun z => absurd z (by decide)) l6
      have l8 : px_lg (px_s1 lv5 8 (oI (k + 1))) 8 = some (oI (k + 1)) := s1_eq
      generalize px_s1 lv5 8 (oI (k + 1)) = lv6 at l9 l4 l6 l8 ⊢
      show t_X d 112 41 lv6 [] g P
      refine t_1 vcd_41 rfl (pb_goto (pc := 41) (by decide)) ?_
      show t_X d 112 9 lv6 [] g P
      refine ih (k + 1) b (a % b) _ (by omega) (by omega) (by omega) (by have := Nat.mod_lt a (show 0 < b by omega); omega) ?_ l4 l6 l8
      unfold gS at hP
      rw [if_neg hb] at hP
      exact hP
theorem vcd_run {d : Nat} {g : pH} {a b : Nat} (ha : a ≤ 9000000000000000000) (hb9 : b ≤ 9000000000000000000) {P : Option pv × pH → Prop} (hP : P (some (.inr (.inl (Int64.ofInt ((gS 100 a b : Nat) : Int)))), g)) {lv : List (Nat × pv)} (l0 : px_lg lv 0 = some (.inr (.inl (Int64.ofInt ((a : Nat) : Int))))) (l2 : px_lg lv 2 = some (.inr (.inl (Int64.ofInt ((b : Nat) : Int))))) : t_X d 112 0 lv [] g P := by
  refine t_0 vcd_0 rfl (ld_l l0) ?_
  refine t_2 vcd_1 rfl (w := (px_s2 lv 4 (.inr (.inl (Int64.ofInt ((a : Nat) : Int)))), [])) rfl ?_
  replace l0 : px_lg (px_s2 lv 4 (.inr (.inl (Int64.ofInt ((a : Nat) : Int))))) 0 = some (.inr (.inl (Int64.ofInt ((a : Nat) : Int)))) := s2_ne (by decide) (fun z => absurd z (by decide)) l0
  replace l2 : px_lg (px_s2 lv 4 (.inr (.inl (Int64.ofInt ((a : Nat) : Int))))) 2 = some (.inr (.inl (Int64.ofInt ((b : Nat) : Int)))) := s2_ne (by decide) (fun z => absurd z (by decide)) l2
  have l4 : px_lg (px_s2 lv 4 (.inr (.inl (Int64.ofInt ((a : Nat) : Int))))) 4 = some (.inr (.inl (Int64.ofInt ((a : Nat) : Int)))) := s2_eq
  generalize px_s2 lv 4 (.inr (.inl (Int64.ofInt ((a : Nat) : Int)))) = lv1 at l0 l2 l4 ⊢
  show t_X d 112 3 lv1 [] g P
  refine t_0 vcd_3 rfl (ld_l l2) ?_
  refine t_2 vcd_4 rfl (w := (px_s2 lv1 6 (.inr (.inl (Int64.ofInt ((b : Nat) : Int)))), [])) rfl ?_
  replace l0 : px_lg (px_s2 lv1 6 (.inr (.inl (Int64.ofInt ((b : Nat) : Int))))) 0 = some (.inr (.inl (Int64.ofInt ((a : Nat) : Int)))) := s2_ne (by decide) (fun z => absurd z (by decide)) l0
  replace l2 : px_lg (px_s2 lv1 6 (.inr (.inl (Int64.ofInt ((b : Nat) : Int))))) 2 = some (.inr (.inl (Int64.ofInt ((b : Nat) : Int)))) := s2_ne (by decide) (fun z => absurd z (by decide)) l2
  replace l4 : px_lg (px_s2 lv1 6 (.inr (.inl (Int64.ofInt ((b : Nat) : Int))))) 4 = some (.inr (.inl (Int64.ofInt ((a : Nat) : Int)))) := s2_ne (by decide) (fun z => absurd z (by decide)) l4
  have l6 : px_lg (px_s2 lv1 6 (.inr (.inl (Int64.ofInt ((b : Nat) : Int))))) 6 = some (.inr (.inl (Int64.ofInt ((b : Nat) : Int)))) := s2_eq
  generalize px_s2 lv1 6 (.inr (.inl (Int64.ofInt ((b : Nat) : Int)))) = lv2 at l0 l2 l4 l6 ⊢
  show t_X d 112 6 lv2 [] g P
  refine t_0 vcd_6 rfl rfl ?_
  refine t_2 vcd_7 rfl (w := (px_s1 lv2 8 (oI 0), [])) rfl ?_
  replace l0 : px_lg (px_s1 lv2 8 (oI 0)) 0 = some (.inr (.inl (Int64.ofInt ((a : Nat) : Int)))) := s1_ne (by decide) (fun z => absurd z (by decide)) l0
  replace l2 : px_lg (px_s1 lv2 8 (oI 0)) 2 = some (.inr (.inl (Int64.ofInt ((b : Nat) : Int)))) := s1_ne (by decide) (fun z => absurd z (by decide)) l2
  replace l4 : px_lg (px_s1 lv2 8 (oI 0)) 4 = some (.inr (.inl (Int64.ofInt ((a : Nat) : Int)))) := s1_ne (by decide) (fun z => absurd z (by decide)) l4
  replace l6 : px_lg (px_s1 lv2 8 (oI 0)) 6 = some (.inr (.inl (Int64.ofInt ((b : Nat) : Int)))) := s1_ne (by decide) (fun z => absurd z (by decide)) l6
  have l8 : px_lg (px_s1 lv2 8 (oI 0)) 8 = some (oI 0) := s1_eq
  generalize px_s1 lv2 8 (oI 0) = lv3 at l0 l2 l4 l6 l8 ⊢
  show t_X d 112 9 lv3 [] g P
  exact vcd_loop 100 0 a b _ (by omega) (by omega) ha hb9 hP l4 l6 l8
theorem vgm_loop {d : Nat} {g : pH} {P : Option pv × pH → Prop} : ∀ (f : Nat) (a b : Nat) (lv : List (Nat × pv)), a ≤ 9000000000000000000 → b ≤ 9000000000000000000 → gD f a b → P (some (.inr (.inl (Int64.ofInt ((gS f a b : Nat) : Int)))), g) → px_lg lv 4 = some (.inr (.inl (Int64.ofInt ((a : Nat) : Int)))) → px_lg lv 6 = some (.inr (.inl (Int64.ofInt ((b : Nat) : Int)))) → t_X d 192 17 lv [] g P := by
  intro f
  induction f with
  | zero =>
    intro a b lv ha hb9 hD hP l4 l6
    have hb : b = 0 := hD
    refine t_0 vgm_17 rfl (ld_l l6) ?_
    refine t_0 vgm_19 rfl rfl ?_
    refine t_0 vgm_20 rfl (pq_l0 (by omega)) ?_
    refine tz_eq vgm_21 (by decide) ⟨by omega, by omega⟩ (fun c1 => ?_) (fun c1 => absurd c1 (by omega))
    show t_X d 192 42 lv [] g P
    refine t_0 vgm_42 rfl (ld_l l4) ?_
    refine t_5 vgm_44 rfl rfl ?_
    exact hP
  | succ f ih =>
    intro a b lv ha hb9 hD hP l4 l6
    by_cases hb : b = 0
    · skip
      refine t_0 vgm_17 rfl (ld_l l6) ?_
      refine t_0 vgm_19 rfl rfl ?_
      refine t_0 vgm_20 rfl (pq_l0 (by omega)) ?_
      refine tz_eq vgm_21 (by decide) ⟨by omega, by omega⟩ (fun c1 => ?_) (fun c1 => absurd c1 (by omega))
      show t_X d 192 42 lv [] g P
      refine t_0 vgm_42 rfl (ld_l l4) ?_
      refine t_5 vgm_44 rfl rfl ?_
      unfold gS at hP
      rw [if_pos hb] at hP
      exact hP
    · skip
      refine t_0 vgm_17 rfl (ld_l l6) ?_
      refine t_0 vgm_19 rfl rfl ?_
      refine t_0 vgm_20 rfl (pq_l1 ⟨by omega, by omega⟩) ?_
      refine tz_eq vgm_21 (by decide) ⟨by omega, by omega⟩ (fun c1 => absurd c1 (by omega)) (fun c1 => ?_)
      show t_X d 192 24 lv [] g P
      refine t_0 vgm_24 rfl (ld_l l4) ?_
      refine t_0 vgm_26 rfl (ld_l l6) ?_
      refine t_0 vgm_28 rfl (pq_lr ⟨by omega, by omega⟩ ⟨by omega, by omega⟩) ?_
      refine t_2 vgm_29 rfl (w := (px_s2 lv 8 (.inr (.inl (Int64.ofInt ((a % b : Nat) : Int)))), [])) rfl ?_
      replace l4 : px_lg (px_s2 lv 8 (.inr (.inl (Int64.ofInt ((a % b : Nat) : Int))))) 4 = some (.inr (.inl (Int64.ofInt ((a : Nat) : Int)))) := s2_ne (by decide) (fun z => absurd z (by decide)) l4
      replace l6 : px_lg (px_s2 lv 8 (.inr (.inl (Int64.ofInt ((a % b : Nat) : Int))))) 6 = some (.inr (.inl (Int64.ofInt ((b : Nat) : Int)))) := s2_ne (by decide) (fun z => absurd z (by decide)) l6
      have l8 : px_lg (px_s2 lv 8 (.inr (.inl (Int64.ofInt ((a % b : Nat) : Int))))) 8 = some (.inr (.inl (Int64.ofInt ((a % b : Nat) : Int)))) := s2_eq
      generalize px_s2 lv 8 (.inr (.inl (Int64.ofInt ((a % b : Nat) : Int)))) = lv2 at l4 l6 l8 ⊢
      show t_X d 192 31 lv2 [] g P
      refine t_0 vgm_31 rfl (ld_l l6) ?_
      refine t_2 vgm_33 rfl (w := (px_s2 lv2 4 (.inr (.inl (Int64.ofInt ((b : Nat) : Int)))), [])) rfl ?_
      replace l6 : px_lg (px_s2 lv2 4 (.inr (.inl (Int64.ofInt ((b : Nat) : Int))))) 6 = some (.inr (.inl (Int64.ofInt ((b : Nat) : Int)))) := s2_ne (by decide) (fun z => absurd z (by decide)) l6
      replace l8 : px_lg (px_s2 lv2 4 (.inr (.inl (Int64.ofInt ((b : Nat) : Int))))) 8 = some (.inr (.inl (Int64.ofInt ((a % b : Nat) : Int)))) := s2_ne (by decide) (fun z => absurd z (by decide)) l8
      have l4 : px_lg (px_s2 lv2 4 (.inr (.inl (Int64.ofInt ((b : Nat) : Int))))) 4 = some (.inr (.inl (Int64.ofInt ((b : Nat) : Int)))) := s2_eq
      generalize px_s2 lv2 4 (.inr (.inl (Int64.ofInt ((b : Nat) : Int)))) = lv3 at l6 l8 l4 ⊢
      show t_X d 192 35 lv3 [] g P
      refine t_0 vgm_35 rfl (ld_l l8) ?_
      refine t_2 vgm_37 rfl (w := (px_s2 lv3 6 (.inr (.inl (Int64.ofInt ((a % b : Nat) : Int)))), [])) rfl ?_
      replace l8 : px_lg (px_s2 lv3 6 (.inr (.inl (Int64.ofInt ((a % b : Nat) : Int))))) 8 = some (.inr (.inl (Int64.ofInt ((a % b : Nat) : Int)))) := s2_ne (by decide) (fun z => absurd z (by decide)) l8
      replace l4 : px_lg (px_s2 lv3 6 (.inr (.inl (Int64.ofInt ((a % b : Nat) : Int))))) 4 = some (.inr (.inl (Int64.ofInt ((b : Nat) : Int)))) := s2_ne (by decide) (fun z => absurd z (by decide)) l4
      have l6 : px_lg (px_s2 lv3 6 (.inr (.inl (Int64.ofInt ((a % b : Nat) : Int))))) 6 = some (.inr (.inl (Int64.ofInt ((a % b : Nat) : Int)))) := s2_eq
      generalize px_s2 lv3 6 (.inr (.inl (Int64.ofInt ((a % b : Nat) : Int)))) = lv4 at l8 l4 l6 ⊢
      show t_X d 192 39 lv4 [] g P
      refine t_1 vgm_39 rfl (pb_goto (pc := 39) (by decide)) ?_
      show t_X d 192 17 lv4 [] g P
      refine ih b (a % b) _ (by omega) (by have := Nat.mod_lt a (show 0 < b by omega); omega) (hD.resolve_left hb) ?_ l4 l6
      unfold gS at hP
      rw [if_neg hb] at hP
      exact hP
theorem vgm_run {d f : Nat} {g : pH} {a b : Nat} (ha : a ≤ 9000000000000000000) (hb9 : b ≤ 9000000000000000000) (hD : gD f a b) {P : Option pv × pH → Prop} (hP : P (some (.inr (.inl (Int64.ofInt ((gS f a b : Nat) : Int)))), g)) {lv : List (Nat × pv)} (l0 : px_lg lv 0 = some (.inr (.inl (Int64.ofInt ((a : Nat) : Int))))) (l2 : px_lg lv 2 = some (.inr (.inl (Int64.ofInt ((b : Nat) : Int))))) : t_X d 192 0 lv [] g P := by
  by_cases hz : a = 0
  · skip
    refine t_0 vgm_0 rfl (ld_l l0) ?_
    refine t_0 vgm_1 rfl rfl ?_
    refine t_0 vgm_2 rfl (pq_l0 (by omega)) ?_
    refine tz_ge vgm_3 (by decide) ⟨by omega, by omega⟩ (fun c1 => ?_) (fun c1 => absurd c1 (by omega))
    show t_X d 192 11 lv [] g P
    refine t_0 vgm_11 rfl (ld_l l0) ?_
    refine t_2 vgm_12 rfl (w := (px_s2 lv 4 (.inr (.inl (Int64.ofInt ((a : Nat) : Int)))), [])) rfl ?_
    replace l0 : px_lg (px_s2 lv 4 (.inr (.inl (Int64.ofInt ((a : Nat) : Int))))) 0 = some (.inr (.inl (Int64.ofInt ((a : Nat) : Int)))) := s2_ne (by decide) (fun z => absurd z (by decide)) l0
    replace l2 : px_lg (px_s2 lv 4 (.inr (.inl (Int64.ofInt ((a : Nat) : Int))))) 2 = some (.inr (.inl (Int64.ofInt ((b : Nat) : Int)))) := s2_ne (by decide) (fun z => absurd z (by decide)) l2
    have l4 : px_lg (px_s2 lv 4 (.inr (.inl (Int64.ofInt ((a : Nat) : Int))))) 4 = some (.inr (.inl (Int64.ofInt ((a : Nat) : Int)))) := s2_eq
    generalize px_s2 lv 4 (.inr (.inl (Int64.ofInt ((a : Nat) : Int)))) = lv2 at l0 l2 l4 ⊢
    show t_X d 192 14 lv2 [] g P
    refine t_0 vgm_14 rfl (ld_l l2) ?_
    refine t_2 vgm_15 rfl (w := (px_s2 lv2 6 (.inr (.inl (Int64.ofInt ((b : Nat) : Int)))), [])) rfl ?_
    replace l0 : px_lg (px_s2 lv2 6 (.inr (.inl (Int64.ofInt ((b : Nat) : Int))))) 0 = some (.inr (.inl (Int64.ofInt ((a : Nat) : Int)))) := s2_ne (by decide) (fun z => absurd z (by decide)) l0
    replace l2 : px_lg (px_s2 lv2 6 (.inr (.inl (Int64.ofInt ((b : Nat) : Int))))) 2 = some (.inr (.inl (Int64.ofInt ((b : Nat) : Int)))) := s2_ne (by decide) (fun z => absurd z (by decide)) l2
    replace l4 : px_lg (px_s2 lv2 6 (.inr (.inl (Int64.ofInt ((b : Nat) : Int))))) 4 = some (.inr (.inl (Int64.ofInt ((a : Nat) : Int)))) := s2_ne (by decide) (fun z => absurd z (by decide)) l4
    have l6 : px_lg (px_s2 lv2 6 (.inr (.inl (Int64.ofInt ((b : Nat) : Int))))) 6 = some (.inr (.inl (Int64.ofInt ((b : Nat) : Int)))) := s2_eq
    generalize px_s2 lv2 6 (.inr (.inl (Int64.ofInt ((b : Nat) : Int)))) = lv3 at l0 l2 l4 l6 ⊢
    show t_X d 192 17 lv3 [] g P
    exact vgm_loop f a b _ ha hb9 hD hP l4 l6
  · skip
    refine t_0 vgm_0 rfl (ld_l l0) ?_
    refine t_0 vgm_1 rfl rfl ?_
    refine t_0 vgm_2 rfl (pq_l1 ⟨by omega, by omega⟩) ?_
    refine tz_ge vgm_3 (by decide) ⟨by omega, by omega⟩ (fun c1 => ?_) (fun c1 => absurd c1 (by omega))
    show t_X d 192 11 lv [] g P
    refine t_0 vgm_11 rfl (ld_l l0) ?_
    refine t_2 vgm_12 rfl (w := (px_s2 lv 4 (.inr (.inl (Int64.ofInt ((a : Nat) : Int)))), [])) rfl ?_
    replace l0 : px_lg (px_s2 lv 4 (.inr (.inl (Int64.ofInt ((a : Nat) : Int))))) 0 = some (.inr (.inl (Int64.ofInt ((a : Nat) : Int)))) := s2_ne (by decide) (fun z => absurd z (by decide)) l0
    replace l2 : px_lg (px_s2 lv 4 (.inr (.inl (Int64.ofInt ((a : Nat) : Int))))) 2 = some (.inr (.inl (Int64.ofInt ((b : Nat) : Int)))) := s2_ne (by decide) (fun z => absurd z (by decide)) l2
    have l4 : px_lg (px_s2 lv 4 (.inr (.inl (Int64.ofInt ((a : Nat) : Int))))) 4 = some (.inr (.inl (Int64.ofInt ((a : Nat) : Int)))) := s2_eq
    generalize px_s2 lv 4 (.inr (.inl (Int64.ofInt ((a : Nat) : Int)))) = lv2 at l0 l2 l4 ⊢
    show t_X d 192 14 lv2 [] g P
    refine t_0 vgm_14 rfl (ld_l l2) ?_
    refine t_2 vgm_15 rfl (w := (px_s2 lv2 6 (.inr (.inl (Int64.ofInt ((b : Nat) : Int)))), [])) rfl ?_
    replace l0 : px_lg (px_s2 lv2 6 (.inr (.inl (Int64.ofInt ((b : Nat) : Int))))) 0 = some (.inr (.inl (Int64.ofInt ((a : Nat) : Int)))) := s2_ne (by decide) (fun z => absurd z (by decide)) l0
    replace l2 : px_lg (px_s2 lv2 6 (.inr (.inl (Int64.ofInt ((b : Nat) : Int))))) 2 = some (.inr (.inl (Int64.ofInt ((b : Nat) : Int)))) := s2_ne (by decide) (fun z => absurd z (by decide)) l2
    replace l4 : px_lg (px_s2 lv2 6 (.inr (.inl (Int64.ofInt ((b : Nat) : Int))))) 4 = some (.inr (.inl (Int64.ofInt ((a : Nat) : Int)))) := s2_ne (by decide) (fun z => absurd z (by decide)) l4
    have l6 : px_lg (px_s2 lv2 6 (.inr (.inl (Int64.ofInt ((b : Nat) : Int))))) 6 = some (.inr (.inl (Int64.ofInt ((b : Nat) : Int)))) := s2_eq
    generalize px_s2 lv2 6 (.inr (.inl (Int64.ofInt ((b : Nat) : Int)))) = lv3 at l0 l2 l4 l6 ⊢
    show t_X d 192 17 lv3 [] g P
    exact vgm_loop f a b _ ha hb9 hD hP l4 l6
theorem vpo_r0 {d : Nat} (hd : 1 ≤ d) {g : pH} {a b : Nat} (ha : a ≤ 9000000000000000000) (hb9 : b ≤ 9000000000000000000) (hD : gD 100 a b) (h0 : 0 < a ∨ 0 < b) {P : Option pv × pH → Prop} (hP : P (some (.inr (.inl (Int64.ofInt (((b : Nat) : Int) / ((gS 100 a b : Nat) : Int))))), g)) {lv : List (Nat × pv)} (l0 : px_lg lv 0 = some (.inr (.inl (Int64.ofInt ((a : Nat) : Int))))) (l2 : px_lg lv 2 = some (.inr (.inl (Int64.ofInt ((b : Nat) : Int))))) (l4 : px_lg lv 4 = some (oI 0)) : t_X d 138 0 lv [] g P := by
  have hp := gS_pos 100 a b h0 hD
  have hl := gS_le 100 a b
  refine t_0 vpo_0 rfl (ld_l l0) ?_
  refine t_0 vpo_1 rfl (pq_lb (by omega) (Nat.le_of_ble_eq_true rfl) ⟨by omega, by omega⟩) ?_
  show t_X d 138 4 lv [.inr (.inl (Int64.ofInt ((a : Nat) : Int)))] g P
  refine t_0 vpo_4 rfl (ld_l l2) ?_
  refine t_3 vpo_5 rfl (ar := ([.inr (.inl (Int64.ofInt ((a : Nat) : Int))), .inr (.inl (Int64.ofInt ((b : Nat) : Int)))], [])) (pcal_s ⟨Or.inl rfl, rfl, Nat.le_of_ble_eq_true rfl⟩) ⟨by omega, Nat.le_of_ble_eq_true rfl, Nat.le_of_ble_eq_true rfl, rfl⟩ ?_
  refine vcd_run ha hb9 ?_ rfl rfl
  show t_X d 138 8 lv [.inr (.inl (Int64.ofInt ((gS 100 a b : Nat) : Int)))] g P
  refine t_2 vpo_8 rfl (w := (px_s2 lv 5 (.inr (.inl (Int64.ofInt ((gS 100 a b : Nat) : Int)))), [])) rfl ?_
  replace l0 : px_lg (px_s2 lv 5 (.inr (.inl (Int64.ofInt ((gS 100 a b : Nat) : Int))))) 0 = some (.inr (.inl (Int64.ofInt ((a : Nat) : Int)))) := s2_ne (by decide) (fun z => absurd z (by decide)) l0
  replace l2 : px_lg (px_s2 lv 5 (.inr (.inl (Int64.ofInt ((gS 100 a b : Nat) : Int))))) 2 = some (.inr (.inl (Int64.ofInt ((b : Nat) : Int)))) := s2_ne (by decide) (fun z => absurd z (by decide)) l2
  replace l4 : px_lg (px_s2 lv 5 (.inr (.inl (Int64.ofInt ((gS 100 a b : Nat) : Int))))) 4 = some (oI 0) := s2_ne (by decide) (fun _ => rfl) l4
  have l5 : px_lg (px_s2 lv 5 (.inr (.inl (Int64.ofInt ((gS 100 a b : Nat) : Int))))) 5 = some (.inr (.inl (Int64.ofInt ((gS 100 a b : Nat) : Int)))) := s2_eq
  generalize px_s2 lv 5 (.inr (.inl (Int64.ofInt ((gS 100 a b : Nat) : Int)))) = lv1 at l0 l2 l4 l5 ⊢
  show t_X d 138 10 lv1 [] g P
  refine t_0 vpo_10 rfl (ld_l l5) ?_
  refine t_0 vpo_12 rfl rfl ?_
  refine t_0 vpo_13 rfl (pq_l1 ⟨by omega, by omega⟩) ?_
  refine tz_ne vpo_14 (by decide) ⟨by omega, by omega⟩ (fun c2 => ?_) (fun c2 => absurd c2 (by omega))
  show t_X d 138 19 lv1 [] g P
  refine t_0 vpo_19 rfl (ld_i l4) ?_
  refine tz_eq vpo_21 (by decide) ⟨by omega, by omega⟩ (fun c3 => ?_) (fun c3 => absurd c3 (by omega))
  show t_X d 138 31 lv1 [] g P
  refine t_0 vpo_31 rfl (ld_l l2) ?_
  refine t_0 vpo_32 rfl (ld_l l5) ?_
  refine t_0 vpo_34 rfl (pq_ld ⟨by omega, by omega⟩ ⟨by omega, by omega⟩) ?_
  refine t_5 vpo_35 rfl rfl ?_
  exact hP
theorem vpo_r1 {d : Nat} (hd : 1 ≤ d) {g : pH} {a b : Nat} (ha : a ≤ 9000000000000000000) (hb9 : b ≤ 9000000000000000000) (hD : gD 100 a b) (h0 : 0 < a ∨ 0 < b) {P : Option pv × pH → Prop} (hP : P (some (.inr (.inl (Int64.ofInt (((a : Nat) : Int) / ((gS 100 a b : Nat) : Int))))), g)) {lv : List (Nat × pv)} (l0 : px_lg lv 0 = some (.inr (.inl (Int64.ofInt ((a : Nat) : Int))))) (l2 : px_lg lv 2 = some (.inr (.inl (Int64.ofInt ((b : Nat) : Int))))) (l4 : px_lg lv 4 = some (oI 1)) : t_X d 138 0 lv [] g P := by
  have hp := gS_pos 100 a b h0 hD
  have hl := gS_le 100 a b
  refine t_0 vpo_0 rfl (ld_l l0) ?_
  refine t_0 vpo_1 rfl (pq_lb (by omega) (Nat.le_of_ble_eq_true rfl) ⟨by omega, by omega⟩) ?_
  show t_X d 138 4 lv [.inr (.inl (Int64.ofInt ((a : Nat) : Int)))] g P
  refine t_0 vpo_4 rfl (ld_l l2) ?_
  refine t_3 vpo_5 rfl (ar := ([.inr (.inl (Int64.ofInt ((a : Nat) : Int))), .inr (.inl (Int64.ofInt ((b : Nat) : Int)))], [])) (pcal_s ⟨Or.inl rfl, rfl, Nat.le_of_ble_eq_true rfl⟩) ⟨by omega, Nat.le_of_ble_eq_true rfl, Nat.le_of_ble_eq_true rfl, rfl⟩ ?_
  refine vcd_run ha hb9 ?_ rfl rfl
  show t_X d 138 8 lv [.inr (.inl (Int64.ofInt ((gS 100 a b : Nat) : Int)))] g P
  refine t_2 vpo_8 rfl (w := (px_s2 lv 5 (.inr (.inl (Int64.ofInt ((gS 100 a b : Nat) : Int)))), [])) rfl ?_
  replace l0 : px_lg (px_s2 lv 5 (.inr (.inl (Int64.ofInt ((gS 100 a b : Nat) : Int))))) 0 = some (.inr (.inl (Int64.ofInt ((a : Nat) : Int)))) := s2_ne (by decide) (fun z => absurd z (by decide)) l0
  replace l2 : px_lg (px_s2 lv 5 (.inr (.inl (Int64.ofInt ((gS 100 a b : Nat) : Int))))) 2 = some (.inr (.inl (Int64.ofInt ((b : Nat) : Int)))) := s2_ne (by decide) (fun z => absurd z (by decide)) l2
  replace l4 : px_lg (px_s2 lv 5 (.inr (.inl (Int64.ofInt ((gS 100 a b : Nat) : Int))))) 4 = some (oI 1) := s2_ne (by decide) (fun _ => rfl) l4
  have l5 : px_lg (px_s2 lv 5 (.inr (.inl (Int64.ofInt ((gS 100 a b : Nat) : Int))))) 5 = some (.inr (.inl (Int64.ofInt ((gS 100 a b : Nat) : Int)))) := s2_eq
  generalize px_s2 lv 5 (.inr (.inl (Int64.ofInt ((gS 100 a b : Nat) : Int)))) = lv1 at l0 l2 l4 l5 ⊢
  show t_X d 138 10 lv1 [] g P
  refine t_0 vpo_10 rfl (ld_l l5) ?_
  refine t_0 vpo_12 rfl rfl ?_
  refine t_0 vpo_13 rfl (pq_l1 ⟨by omega, by omega⟩) ?_
  refine tz_ne vpo_14 (by decide) ⟨by omega, by omega⟩ (fun c2 => ?_) (fun c2 => absurd c2 (by omega))
  show t_X d 138 19 lv1 [] g P
  refine t_0 vpo_19 rfl (ld_i l4) ?_
  refine tz_eq vpo_21 (by decide) ⟨by omega, by omega⟩ (fun c3 => absurd c3 (by omega)) (fun c3 => ?_)
  show t_X d 138 24 lv1 [] g P
  refine t_0 vpo_24 rfl (ld_l l0) ?_
  refine t_0 vpo_25 rfl (ld_l l5) ?_
  refine t_0 vpo_27 rfl (pq_ld ⟨by omega, by omega⟩ ⟨by omega, by omega⟩) ?_
  refine t_1 vpo_28 rfl (pb_goto (pc := 28) (by decide)) ?_
  show t_X d 138 35 lv1 [.inr (.inl (Int64.ofInt (((a : Nat) : Int) / ((gS 100 a b : Nat) : Int))))] g P
  refine t_5 vpo_35 rfl rfl ?_
  exact hP
theorem vth_r0 {d : Nat} (hd : 1 ≤ d) {g : pH} {a b : Nat} (ha : a ≤ 9000000000000000000) (hb9 : b ≤ 9000000000000000000) (hD : gD 100 a b) (h0 : 0 < a ∨ 0 < b) {P : Option pv × pH → Prop} (hP : P (some (.inr (.inl (Int64.ofInt (((a : Nat) : Int) / ((gS 100 a b : Nat) : Int))))), g)) {lv : List (Nat × pv)} (l0 : px_lg lv 0 = some (.inr (.inl (Int64.ofInt ((a : Nat) : Int))))) (l2 : px_lg lv 2 = some (.inr (.inl (Int64.ofInt ((b : Nat) : Int))))) (l4 : px_lg lv 4 = some (oI 0)) : t_X d 262 0 lv [] g P := by
  have hp := gS_pos 100 a b h0 hD
  have hl := gS_le 100 a b
  refine t_0 vth_0 rfl (ld_l l0) ?_
  refine t_0 vth_1 rfl (ld_l l2) ?_
  refine t_3 vth_2 rfl (ar := ([.inr (.inl (Int64.ofInt ((a : Nat) : Int))), .inr (.inl (Int64.ofInt ((b : Nat) : Int)))], [])) (pcal_s ⟨Or.inl rfl, rfl, Nat.le_of_ble_eq_true rfl⟩) ⟨by omega, Nat.le_of_ble_eq_true rfl, Nat.le_of_ble_eq_true rfl, rfl⟩ ?_
  refine vgm_run ha hb9 hD ?_ rfl rfl
  show t_X d 262 5 lv [.inr (.inl (Int64.ofInt ((gS 100 a b : Nat) : Int)))] g P
  refine t_2 vth_5 rfl (w := (px_s2 lv 5 (.inr (.inl (Int64.ofInt ((gS 100 a b : Nat) : Int)))), [])) rfl ?_
  replace l0 : px_lg (px_s2 lv 5 (.inr (.inl (Int64.ofInt ((gS 100 a b : Nat) : Int))))) 0 = some (.inr (.inl (Int64.ofInt ((a : Nat) : Int)))) := s2_ne (by decide) (fun z => absurd z (by decide)) l0
  replace l2 : px_lg (px_s2 lv 5 (.inr (.inl (Int64.ofInt ((gS 100 a b : Nat) : Int))))) 2 = some (.inr (.inl (Int64.ofInt ((b : Nat) : Int)))) := s2_ne (by decide) (fun z => absurd z (by decide)) l2
  replace l4 : px_lg (px_s2 lv 5 (.inr (.inl (Int64.ofInt ((gS 100 a b : Nat) : Int))))) 4 = some (oI 0) := s2_ne (by decide) (fun _ => rfl) l4
  have l5 : px_lg (px_s2 lv 5 (.inr (.inl (Int64.ofInt ((gS 100 a b : Nat) : Int))))) 5 = some (.inr (.inl (Int64.ofInt ((gS 100 a b : Nat) : Int)))) := s2_eq
  generalize px_s2 lv 5 (.inr (.inl (Int64.ofInt ((gS 100 a b : Nat) : Int)))) = lv1 at l0 l2 l4 l5 ⊢
  show t_X d 262 7 lv1 [] g P
  refine t_0 vth_7 rfl (ld_i l4) ?_
  refine tz_ne vth_9 (by decide) ⟨by omega, by omega⟩ (fun c2 => absurd c2 (by omega)) (fun c2 => ?_)
  show t_X d 262 12 lv1 [] g P
  refine t_0 vth_12 rfl (ld_l l0) ?_
  refine t_0 vth_13 rfl (ld_l l5) ?_
  refine t_0 vth_15 rfl (pq_ld ⟨by omega, by omega⟩ ⟨by omega, by omega⟩) ?_
  refine t_1 vth_16 rfl (pb_goto (pc := 16) (by decide)) ?_
  show t_X d 262 23 lv1 [.inr (.inl (Int64.ofInt (((a : Nat) : Int) / ((gS 100 a b : Nat) : Int))))] g P
  refine t_5 vth_23 rfl rfl ?_
  exact hP
theorem vth_r1 {d : Nat} (hd : 1 ≤ d) {g : pH} {a b : Nat} (ha : a ≤ 9000000000000000000) (hb9 : b ≤ 9000000000000000000) (hD : gD 100 a b) (h0 : 0 < a ∨ 0 < b) {P : Option pv × pH → Prop} (hP : P (some (.inr (.inl (Int64.ofInt (((b : Nat) : Int) / ((gS 100 a b : Nat) : Int))))), g)) {lv : List (Nat × pv)} (l0 : px_lg lv 0 = some (.inr (.inl (Int64.ofInt ((a : Nat) : Int))))) (l2 : px_lg lv 2 = some (.inr (.inl (Int64.ofInt ((b : Nat) : Int))))) (l4 : px_lg lv 4 = some (oI 1)) : t_X d 262 0 lv [] g P := by
  have hp := gS_pos 100 a b h0 hD
  have hl := gS_le 100 a b
  refine t_0 vth_0 rfl (ld_l l0) ?_
  refine t_0 vth_1 rfl (ld_l l2) ?_
  refine t_3 vth_2 rfl (ar := ([.inr (.inl (Int64.ofInt ((a : Nat) : Int))), .inr (.inl (Int64.ofInt ((b : Nat) : Int)))], [])) (pcal_s ⟨Or.inl rfl, rfl, Nat.le_of_ble_eq_true rfl⟩) ⟨by omega, Nat.le_of_ble_eq_true rfl, Nat.le_of_ble_eq_true rfl, rfl⟩ ?_
  refine vgm_run ha hb9 hD ?_ rfl rfl
  show t_X d 262 5 lv [.inr (.inl (Int64.ofInt ((gS 100 a b : Nat) : Int)))] g P
  refine t_2 vth_5 rfl (w := (px_s2 lv 5 (.inr (.inl (Int64.ofInt ((gS 100 a b : Nat) : Int)))), [])) rfl ?_
  replace l0 : px_lg (px_s2 lv 5 (.inr (.inl (Int64.ofInt ((gS 100 a b : Nat) : Int))))) 0 = some (.inr (.inl (Int64.ofInt ((a : Nat) : Int)))) := s2_ne (by decide) (fun z => absurd z (by decide)) l0
  replace l2 : px_lg (px_s2 lv 5 (.inr (.inl (Int64.ofInt ((gS 100 a b : Nat) : Int))))) 2 = some (.inr (.inl (Int64.ofInt ((b : Nat) : Int)))) := s2_ne (by decide) (fun z => absurd z (by decide)) l2
  replace l4 : px_lg (px_s2 lv 5 (.inr (.inl (Int64.ofInt ((gS 100 a b : Nat) : Int))))) 4 = some (oI 1) := s2_ne (by decide) (fun _ => rfl) l4
  have l5 : px_lg (px_s2 lv 5 (.inr (.inl (Int64.ofInt ((gS 100 a b : Nat) : Int))))) 5 = some (.inr (.inl (Int64.ofInt ((gS 100 a b : Nat) : Int)))) := s2_eq
  generalize px_s2 lv 5 (.inr (.inl (Int64.ofInt ((gS 100 a b : Nat) : Int)))) = lv1 at l0 l2 l4 l5 ⊢
  show t_X d 262 7 lv1 [] g P
  refine t_0 vth_7 rfl (ld_i l4) ?_
  refine tz_ne vth_9 (by decide) ⟨by omega, by omega⟩ (fun c2 => ?_) (fun c2 => absurd c2 (by omega))
  show t_X d 262 19 lv1 [] g P
  refine t_0 vth_19 rfl (ld_l l2) ?_
  refine t_0 vth_20 rfl (ld_l l5) ?_
  refine t_0 vth_22 rfl (pq_ld ⟨by omega, by omega⟩ ⟨by omega, by omega⟩) ?_
  refine t_5 vth_23 rfl rfl ?_
  exact hP
theorem vsy_loop {m w : Nat} {x y : Int} {d : Nat} {g : pH} {P : Option pv × pH → Prop} : ∀ (r : Nat) (a b q : Int) (lv : List (Nat × pv)), q = r ∧ r ≤ 8 → (0 ≤ a ∧ a ≤ 4) → (0 ≤ b ∧ b ≤ 4) → (∀ lv : List (Nat × pv), px_lg lv 0 = some (pvR (4 + 2 * m)) → px_lg lv 1 = some (oI (w : Int)) → px_lg lv 4 = some (oI (qtx r a b)) → px_lg lv 5 = some (oI (qty r a b)) → t_X d 77 56 lv [] g P) → px_lg lv 0 = some (pvR (4 + 2 * m)) → px_lg lv 1 = some (oI (w : Int)) → px_lg lv 2 = some (oI x) → px_lg lv 3 = some (oI y) → px_lg lv 4 = some (oI a) → px_lg lv 5 = some (oI b) → px_lg lv 6 = some (oI q) → t_X d 77 31 lv [] g P := by
  intro r
  induction r with
  | zero =>
    intro a b q lv hq ha hb hP l0 l1 l2 l3 l4 l5 l6
    refine t_0 vsy_31 rfl (ld_i l6) ?_
    refine tz_le vsy_33 (by decide) ⟨by omega, by omega⟩ (fun c1 => ?_) (fun c1 => absurd c1 (by omega))
    show t_X d 77 56 lv [] g P
    exact hP _ l0 l1 l4 l5
  | succ r ih =>
    intro a b q lv hq ha hb hP l0 l1 l2 l3 l4 l5 l6
    refine t_0 vsy_31 rfl (ld_i l6) ?_
    refine tz_le vsy_33 (by decide) ⟨by omega, by omega⟩ (fun c1 => absurd c1 (by omega)) (fun c1 => ?_)
    show t_X d 77 36 lv [] g P
    refine t_0 vsy_36 rfl (ld_i l4) ?_
    refine t_2 vsy_38 rfl (w := (px_s1 lv 7 (oI (a)), [])) rfl ?_
    replace l0 : px_lg (px_s1 lv 7 (oI (a))) 0 = some (pvR (4 + 2 * m)) := s1_ne (by decide) (fun _ => rfl) l0
    replace l1 : px_lg (px_s1 lv 7 (oI (a))) 1 = some (oI ((w : Int))) := s1_ne (by decide) (fun _ => rfl) l1
    replace l2 : px_lg (px_s1 lv 7 (oI (a))) 2 = some (oI (x)) := s1_ne (by decide) (fun _ => rfl) l2
    replace l3 : px_lg (px_s1 lv 7 (oI (a))) 3 = some (oI (y)) := s1_ne (by decide) (fun _ => rfl) l3
    replace l4 : px_lg (px_s1 lv 7 (oI (a))) 4 = some (oI (a)) := s1_ne (by decide) (fun _ => rfl) l4
    replace l5 : px_lg (px_s1 lv 7 (oI (a))) 5 = some (oI (b)) := s1_ne (by decide) (fun _ => rfl) l5
    replace l6 : px_lg (px_s1 lv 7 (oI (a))) 6 = some (oI (q)) := s1_ne (by decide) (fun _ => rfl) l6
    have l7 : px_lg (px_s1 lv 7 (oI (a))) 7 = some (oI (a)) := s1_eq
    generalize px_s1 lv 7 (oI (a)) = lv2 at l0 l1 l2 l3 l4 l5 l6 l7 ⊢
    show t_X d 77 40 lv2 [] g P
    refine t_0 vsy_40 rfl (ld_i l5) ?_
    refine t_2 vsy_42 rfl (w := (px_s1 lv2 4 (oI (b)), [])) rfl ?_
    replace l0 : px_lg (px_s1 lv2 4 (oI (b))) 0 = some (pvR (4 + 2 * m)) := s1_ne (by decide) (fun _ => rfl) l0
    replace l1 : px_lg (px_s1 lv2 4 (oI (b))) 1 = some (oI ((w : Int))) := s1_ne (by decide) (fun _ => rfl) l1
    replace l2 : px_lg (px_s1 lv2 4 (oI (b))) 2 = some (oI (x)) := s1_ne (by decide) (fun _ => rfl) l2
    replace l3 : px_lg (px_s1 lv2 4 (oI (b))) 3 = some (oI (y)) := s1_ne (by decide) (fun _ => rfl) l3
    replace l5 : px_lg (px_s1 lv2 4 (oI (b))) 5 = some (oI (b)) := s1_ne (by decide) (fun _ => rfl) l5
    replace l6 : px_lg (px_s1 lv2 4 (oI (b))) 6 = some (oI (q)) := s1_ne (by decide) (fun _ => rfl) l6
    replace l7 : px_lg (px_s1 lv2 4 (oI (b))) 7 = some (oI (a)) := s1_ne (by decide) (fun _ => rfl) l7
    have l4 : px_lg (px_s1 lv2 4 (oI (b))) 4 = some (oI (b)) := s1_eq
    generalize px_s1 lv2 4 (oI (b)) = lv3 at l0 l1 l2 l3 l5 l6 l7 l4 ⊢
    show t_X d 77 44 lv3 [] g P
    refine t_0 vsy_44 rfl rfl ?_
    refine t_0 vsy_45 rfl (ld_i l7) ?_
    refine t_0 vsy_47 rfl pq_sub ?_
    refine t_2 vsy_48 rfl (w := (px_s1 lv3 5 (oI (4 - a)), [])) rfl ?_
    replace l0 : px_lg (px_s1 lv3 5 (oI (4 - a))) 0 = some (pvR (4 + 2 * m)) := s1_ne (by decide) (fun _ => rfl) l0
    replace l1 : px_lg (px_s1 lv3 5 (oI (4 - a))) 1 = some (oI ((w : Int))) := s1_ne (by decide) (fun _ => rfl) l1
    replace l2 : px_lg (px_s1 lv3 5 (oI (4 - a))) 2 = some (oI (x)) := s1_ne (by decide) (fun _ => rfl) l2
    replace l3 : px_lg (px_s1 lv3 5 (oI (4 - a))) 3 = some (oI (y)) := s1_ne (by decide) (fun _ => rfl) l3
    replace l6 : px_lg (px_s1 lv3 5 (oI (4 - a))) 6 = some (oI (q)) := s1_ne (by decide) (fun _ => rfl) l6
    replace l7 : px_lg (px_s1 lv3 5 (oI (4 - a))) 7 = some (oI (a)) := s1_ne (by decide) (fun _ => rfl) l7
    replace l4 : px_lg (px_s1 lv3 5 (oI (4 - a))) 4 = some (oI (b)) := s1_ne (by decide) (fun _ => rfl) l4
    have l5 : px_lg (px_s1 lv3 5 (oI (4 - a))) 5 = some (oI (4 - a)) := s1_eq
    generalize px_s1 lv3 5 (oI (4 - a)) = lv4 at l0 l1 l2 l3 l6 l7 l4 l5 ⊢
    show t_X d 77 50 lv4 [] g P
    refine t_2 vsy_50 rfl (w := (px_s1 lv4 6 (oI (q + (-1))), [])) (pq_inc l6 (by decide)) ?_
    replace l0 : px_lg (px_s1 lv4 6 (oI (q + (-1)))) 0 = some (pvR (4 + 2 * m)) := s1_ne (by decide) (fun _ => rfl) l0
    replace l1 : px_lg (px_s1 lv4 6 (oI (q + (-1)))) 1 = some (oI ((w : Int))) := s1_ne (by decide) (fun _ => rfl) l1
    replace l2 : px_lg (px_s1 lv4 6 (oI (q + (-1)))) 2 = some (oI (x)) := s1_ne (by decide) (fun _ => rfl) l2
    replace l3 : px_lg (px_s1 lv4 6 (oI (q + (-1)))) 3 = some (oI (y)) := s1_ne (by decide) (fun _ => rfl) l3
    replace l7 : px_lg (px_s1 lv4 6 (oI (q + (-1)))) 7 = some (oI (a)) := s1_ne (by decide) (fun _ => rfl) l7
    replace l4 : px_lg (px_s1 lv4 6 (oI (q + (-1)))) 4 = some (oI (b)) := s1_ne (by decide) (fun _ => rfl) l4
    replace l5 : px_lg (px_s1 lv4 6 (oI (q + (-1)))) 5 = some (oI (4 - a)) := s1_ne (by decide) (fun _ => rfl) l5
    have l6 : px_lg (px_s1 lv4 6 (oI (q + (-1)))) 6 = some (oI (q + (-1))) := s1_eq
    generalize px_s1 lv4 6 (oI (q + (-1))) = lv5 at l0 l1 l2 l3 l7 l4 l5 l6 ⊢
    show t_X d 77 53 lv5 [] g P
    refine t_1 vsy_53 rfl (pb_goto (pc := 53) (by decide)) ?_
    show t_X d 77 31 lv5 [] g P
    exact ih b (4 - a) _ _ (by omega) (by omega) (by omega) hP l0 l1 l2 l3 l4 l5 l6
theorem vsy_tail {m : Nat} (hm : m < 32) {w : Nat} (hw : w < 8) {d : Nat} {g : pH} (hG : g_I eG g) {pic : tC} (hp : fA g (5 + 2 * m) = pic) {x y : Int} (hx : 0 ≤ x ∧ x ≤ 4) (hy : 0 ≤ y ∧ y ≤ 4) {P : Option pv × pH → Prop} (hA : (0 ≤ x ∧ x ≤ 4) ∧ (0 ≤ y ∧ y ≤ 4) → P (some (oI (pic (qdI w x y).toNat)), g)) {lv : List (Nat × pv)} (l0 : px_lg lv 0 = some (pvR (4 + 2 * m))) (l1 : px_lg lv 1 = some (oI (w : Int))) (l4 : px_lg lv 4 = some (oI (qtx (w % 4) x y))) (l5 : px_lg lv 5 = some (oI (qty (w % 4) x y))) : t_X d 77 56 lv [] g P := by
  have qb := qt_b (w % 4) x y hx hy
  refine t_0 vsy_56 rfl (ld_i l1) ?_
  refine t_0 vsy_57 rfl rfl ?_
  refine tb_lt vsy_58 (by decide) ⟨by omega, by omega⟩ ⟨by omega, by omega⟩ (fun c1 => ?_) (fun c1 => ?_)
  · show t_X d 77 67 lv [] g P
    refine t_0 vsy_67 rfl (ld_a l0) ?_
    refine t_0 vsy_68 rfl (tl_r1 hm hG) ?_
    show t_X d 77 71 lv [pvR (5 + 2 * m)] g P
    refine t_0 vsy_71 rfl (ld_i l5) ?_
    refine t_0 vsy_73 rfl rfl ?_
    refine t_0 vsy_74 rfl pq_mul ?_
    refine t_0 vsy_75 rfl (ld_i l4) ?_
    refine t_0 vsy_77 rfl pq_add ?_
    refine t_0 vsy_78 rfl (pq_iv (tl_a m hm).1 rfl ⟨by omega, by omega⟩ hp) ?_
    show t_X d 77 79 lv [oI (pic (((qty (w % 4) x y) * 5) + (qtx (w % 4) x y)).toNat)] g P
    refine t_5 vsy_79 rfl rfl ?_
    have e9 : ((qty (w % 4) x y) * 5) + (qtx (w % 4) x y) = qdI w x y := by unfold qdI; rw [if_neg (by omega)]; omega
    rw [e9]
    exact hA ⟨hx, hy⟩
  · show t_X d 77 61 lv [] g P
    refine t_0 vsy_61 rfl rfl ?_
    refine t_0 vsy_62 rfl (ld_i l4) ?_
    refine t_0 vsy_64 rfl pq_sub ?_
    refine t_2 vsy_65 rfl (w := (px_s1 lv 4 (oI (4 - (qtx (w % 4) x y))), [])) rfl ?_
    replace l0 : px_lg (px_s1 lv 4 (oI (4 - (qtx (w % 4) x y)))) 0 = some (pvR (4 + 2 * m)) := s1_ne (by decide) (fun _ => rfl) l0
    replace l1 : px_lg (px_s1 lv 4 (oI (4 - (qtx (w % 4) x y)))) 1 = some (oI ((w : Int))) := s1_ne (by decide) (fun _ => rfl) l1
    replace l5 : px_lg (px_s1 lv 4 (oI (4 - (qtx (w % 4) x y)))) 5 = some (oI (qty (w % 4) x y)) := s1_ne (by decide) (fun _ => rfl) l5
    have l4 : px_lg (px_s1 lv 4 (oI (4 - (qtx (w % 4) x y)))) 4 = some (oI (4 - (qtx (w % 4) x y))) := s1_eq
    generalize px_s1 lv 4 (oI (4 - (qtx (w % 4) x y))) = lv2 at l0 l1 l5 l4 ⊢
    show t_X d 77 67 lv2 [] g P
    refine t_0 vsy_67 rfl (ld_a l0) ?_
    refine t_0 vsy_68 rfl (tl_r1 hm hG) ?_
    show t_X d 77 71 lv2 [pvR (5 + 2 * m)] g P
    refine t_0 vsy_71 rfl (ld_i l5) ?_
    refine t_0 vsy_73 rfl rfl ?_
    refine t_0 vsy_74 rfl pq_mul ?_
    refine t_0 vsy_75 rfl (ld_i l4) ?_
    refine t_0 vsy_77 rfl pq_add ?_
    refine t_0 vsy_78 rfl (pq_iv (tl_a m hm).1 rfl ⟨by omega, by omega⟩ hp) ?_
    show t_X d 77 79 lv2 [oI (pic (((qty (w % 4) x y) * 5) + (4 - (qtx (w % 4) x y))).toNat)] g P
    refine t_5 vsy_79 rfl rfl ?_
    have e9 : ((qty (w % 4) x y) * 5) + (4 - (qtx (w % 4) x y)) = qdI w x y := by unfold qdI; rw [if_pos (by omega)]; omega
    rw [e9]
    exact hA ⟨hx, hy⟩
theorem vsy_run {m : Nat} (hm : m < 32) {w : Nat} (hw : w < 8) {d : Nat} {g : pH} (hG : g_I eG g) {pic : tC} (hp : fA g (5 + 2 * m) = pic) {x y : Int} (hx : -2147483648 ≤ x ∧ x ≤ 2147483647) (hy : -2147483648 ≤ y ∧ y ≤ 2147483647) {P : Option pv × pH → Prop} (hd : 1 ≤ d) (hA : (0 ≤ x ∧ x ≤ 4) ∧ (0 ≤ y ∧ y ≤ 4) → P (some (oI (pic (qdI w x y).toNat)), g)) (hR : ¬ ((0 ≤ x ∧ x ≤ 4) ∧ (0 ≤ y ∧ y ≤ 4)) → P (some (oI (-1)), g)) {lv : List (Nat × pv)} (l0 : px_lg lv 0 = some (pvR (4 + 2 * m))) (l1 : px_lg lv 1 = some (oI (w : Int))) (l2 : px_lg lv 2 = some (oI x)) (l3 : px_lg lv 3 = some (oI y)) : t_X d 77 0 lv [] g P := by
  refine t_0 vsy_0 rfl (ld_i l2) ?_
  refine t_0 vsy_1 rfl rfl ?_
  refine t_0 vsy_2 rfl rfl ?_
  refine t_3 vsy_3 rfl (ar := ([oI (x), oI 0, oI 4], [])) (pcal_s ⟨Or.inr rfl, rfl, Nat.le_of_ble_eq_true rfl⟩) ⟨by omega, Nat.le_of_ble_eq_true rfl, Nat.le_of_ble_eq_true rfl, rfl⟩ ?_
  refine ii_run ⟨by omega, by omega⟩ ⟨by omega, by omega⟩ ⟨by omega, by omega⟩ rfl rfl rfl (fun t1 => ?_) (fun t1 => ?_)
  · show t_X d 77 6 lv [oI 1] g P
    refine tz_eq vsy_6 (by decide) ⟨by omega, by omega⟩ (fun c2 => absurd c2 (by omega)) (fun c2 => ?_)
    show t_X d 77 9 lv [] g P
    refine t_0 vsy_9 rfl (ld_i l3) ?_
    refine t_0 vsy_10 rfl rfl ?_
    refine t_0 vsy_11 rfl rfl ?_
    refine t_3 vsy_12 rfl (ar := ([oI (y), oI 0, oI 4], [])) (pcal_s ⟨Or.inr rfl, rfl, Nat.le_of_ble_eq_true rfl⟩) ⟨by omega, Nat.le_of_ble_eq_true rfl, Nat.le_of_ble_eq_true rfl, rfl⟩ ?_
    refine ii_run ⟨by omega, by omega⟩ ⟨by omega, by omega⟩ ⟨by omega, by omega⟩ rfl rfl rfl (fun t3 => ?_) (fun t3 => ?_)
    · show t_X d 77 15 lv [oI 1] g P
      refine tz_ne vsy_15 (by decide) ⟨by omega, by omega⟩ (fun c4 => ?_) (fun c4 => absurd c4 (by omega))
      show t_X d 77 20 lv [] g P
      refine t_0 vsy_20 rfl (ld_i l2) ?_
      refine t_2 vsy_21 rfl (w := (px_s1 lv 4 (oI (x)), [])) rfl ?_
      replace l0 : px_lg (px_s1 lv 4 (oI (x))) 0 = some (pvR (4 + 2 * m)) := s1_ne (by decide) (fun _ => rfl) l0
      replace l1 : px_lg (px_s1 lv 4 (oI (x))) 1 = some (oI ((w : Int))) := s1_ne (by decide) (fun _ => rfl) l1
      replace l2 : px_lg (px_s1 lv 4 (oI (x))) 2 = some (oI (x)) := s1_ne (by decide) (fun _ => rfl) l2
      replace l3 : px_lg (px_s1 lv 4 (oI (x))) 3 = some (oI (y)) := s1_ne (by decide) (fun _ => rfl) l3
      have l4 : px_lg (px_s1 lv 4 (oI (x))) 4 = some (oI (x)) := s1_eq
      generalize px_s1 lv 4 (oI (x)) = lv5 at l0 l1 l2 l3 l4 ⊢
      show t_X d 77 23 lv5 [] g P
      refine t_0 vsy_23 rfl (ld_i l3) ?_
      refine t_2 vsy_24 rfl (w := (px_s1 lv5 5 (oI (y)), [])) rfl ?_
      replace l0 : px_lg (px_s1 lv5 5 (oI (y))) 0 = some (pvR (4 + 2 * m)) := s1_ne (by decide) (fun _ => rfl) l0
      replace l1 : px_lg (px_s1 lv5 5 (oI (y))) 1 = some (oI ((w : Int))) := s1_ne (by decide) (fun _ => rfl) l1
      replace l2 : px_lg (px_s1 lv5 5 (oI (y))) 2 = some (oI (x)) := s1_ne (by decide) (fun _ => rfl) l2
      replace l3 : px_lg (px_s1 lv5 5 (oI (y))) 3 = some (oI (y)) := s1_ne (by decide) (fun _ => rfl) l3
      replace l4 : px_lg (px_s1 lv5 5 (oI (y))) 4 = some (oI (x)) := s1_ne (by decide) (fun _ => rfl) l4
      have l5 : px_lg (px_s1 lv5 5 (oI (y))) 5 = some (oI (y)) := s1_eq
      generalize px_s1 lv5 5 (oI (y)) = lv6 at l0 l1 l2 l3 l4 l5 ⊢
      show t_X d 77 26 lv6 [] g P
      refine t_0 vsy_26 rfl (ld_i l1) ?_
      refine t_0 vsy_27 rfl rfl ?_
      refine t_0 vsy_28 rfl (pq_w3 hw) ?_
      refine t_2 vsy_29 rfl (w := (px_s1 lv6 6 (oI ((w : Int) % 4)), [])) rfl ?_
      replace l0 : px_lg (px_s1 lv6 6 (oI ((w : Int) % 4))) 0 = some (pvR (4 + 2 * m)) := s1_ne (by decide) (fun _ => rfl) l0
      replace l1 : px_lg (px_s1 lv6 6 (oI ((w : Int) % 4))) 1 = some (oI ((w : Int))) := s1_ne (by decide) (fun _ => rfl) l1
      replace l2 : px_lg (px_s1 lv6 6 (oI ((w : Int) % 4))) 2 = some (oI (x)) := s1_ne (by decide) (fun _ => rfl) l2
      replace l3 : px_lg (px_s1 lv6 6 (oI ((w : Int) % 4))) 3 = some (oI (y)) := s1_ne (by decide) (fun _ => rfl) l3
      replace l4 : px_lg (px_s1 lv6 6 (oI ((w : Int) % 4))) 4 = some (oI (x)) := s1_ne (by decide) (fun _ => rfl) l4
      replace l5 : px_lg (px_s1 lv6 6 (oI ((w : Int) % 4))) 5 = some (oI (y)) := s1_ne (by decide) (fun _ => rfl) l5
      have l6 : px_lg (px_s1 lv6 6 (oI ((w : Int) % 4))) 6 = some (oI ((w : Int) % 4)) := s1_eq
      generalize px_s1 lv6 6 (oI ((w : Int) % 4)) = lv7 at l0 l1 l2 l3 l4 l5 l6 ⊢
      show t_X d 77 31 lv7 [] g P
      exact vsy_loop (w % 4) x y _ _ (by omega) (by omega) (by omega) (fun lv l0 l1 l4 l5 => vsy_tail hm hw hG hp (by omega) (by omega) hA l0 l1 l4 l5) l0 l1 l2 l3 l4 l5 l6
    · show t_X d 77 15 lv [oI 0] g P
      refine tz_ne vsy_15 (by decide) ⟨by omega, by omega⟩ (fun c8 => absurd c8 (by omega)) (fun c8 => ?_)
      show t_X d 77 18 lv [] g P
      refine t_0 vsy_18 rfl rfl ?_
      refine t_5 vsy_19 rfl rfl ?_
      exact hR (by omega)
  · show t_X d 77 6 lv [oI 0] g P
    refine tz_eq vsy_6 (by decide) ⟨by omega, by omega⟩ (fun c9 => ?_) (fun c9 => absurd c9 (by omega))
    show t_X d 77 18 lv [] g P
    refine t_0 vsy_18 rfl rfl ?_
    refine t_5 vsy_19 rfl rfl ?_
    exact hR (by omega)
theorem vsq_loop {m w : Nat} (hw : w < 8) {d : Nat} {g : pH} {P : Option pv × pH → Prop} : ∀ (r : Nat) (a b q : Int) (lv : List (Nat × pv)), 0 ≤ q → q + r = (w : Int) % 4 → (0 ≤ a ∧ a ≤ 4) → (0 ≤ b ∧ b ≤ 4) → (∀ lv : List (Nat × pv), px_lg lv 0 = some (pvR 196) → px_lg lv 1 = some (oI (m : Int)) → px_lg lv 2 = some (oI (w : Int)) → px_lg lv 5 = some (oI (qtx r a b)) → px_lg lv 6 = some (oI (qty r a b)) → t_X d 250 38 lv [] g P) → px_lg lv 0 = some (pvR 196) → px_lg lv 1 = some (oI (m : Int)) → px_lg lv 2 = some (oI (w : Int)) → px_lg lv 5 = some (oI a) → px_lg lv 6 = some (oI b) → px_lg lv 7 = some (oI q) → t_X d 250 10 lv [] g P := by
  intro r
  induction r with
  | zero =>
    intro a b q lv h0 hq ha hb hP l0 l1 l2 l5 l6 l7
    refine t_0 vsq_10 rfl (ld_i l7) ?_
    refine t_0 vsq_12 rfl (ld_i l2) ?_
    refine t_0 vsq_13 rfl rfl ?_
    refine t_0 vsq_14 rfl (pq_rem ⟨by omega, by omega⟩ ⟨by omega, by omega⟩) ?_
    refine tb_ge vsq_15 (by decide) ⟨by omega, by omega⟩ ⟨by omega, by omega⟩ (fun c1 => ?_) (fun c1 => absurd c1 (by omega))
    show t_X d 250 38 lv [] g P
    exact hP _ l0 l1 l2 l5 l6
  | succ r ih =>
    intro a b q lv h0 hq ha hb hP l0 l1 l2 l5 l6 l7
    refine t_0 vsq_10 rfl (ld_i l7) ?_
    refine t_0 vsq_12 rfl (ld_i l2) ?_
    refine t_0 vsq_13 rfl rfl ?_
    refine t_0 vsq_14 rfl (pq_rem ⟨by omega, by omega⟩ ⟨by omega, by omega⟩) ?_
    refine tb_ge vsq_15 (by decide) ⟨by omega, by omega⟩ ⟨by omega, by omega⟩ (fun c1 => absurd c1 (by omega)) (fun c1 => ?_)
    show t_X d 250 18 lv [] g P
    refine t_0 vsq_18 rfl (ld_i l5) ?_
    refine t_2 vsq_20 rfl (w := (px_s1 lv 8 (oI (a)), [])) rfl ?_
    replace l0 : px_lg (px_s1 lv 8 (oI (a))) 0 = some (pvR 196) := s1_ne (by decide) (fun _ => rfl) l0
    replace l1 : px_lg (px_s1 lv 8 (oI (a))) 1 = some (oI ((m : Int))) := s1_ne (by decide) (fun _ => rfl) l1
    replace l2 : px_lg (px_s1 lv 8 (oI (a))) 2 = some (oI ((w : Int))) := s1_ne (by decide) (fun _ => rfl) l2
    replace l5 : px_lg (px_s1 lv 8 (oI (a))) 5 = some (oI (a)) := s1_ne (by decide) (fun _ => rfl) l5
    replace l6 : px_lg (px_s1 lv 8 (oI (a))) 6 = some (oI (b)) := s1_ne (by decide) (fun _ => rfl) l6
    replace l7 : px_lg (px_s1 lv 8 (oI (a))) 7 = some (oI (q)) := s1_ne (by decide) (fun _ => rfl) l7
    have l8 : px_lg (px_s1 lv 8 (oI (a))) 8 = some (oI (a)) := s1_eq
    generalize px_s1 lv 8 (oI (a)) = lv2 at l0 l1 l2 l5 l6 l7 l8 ⊢
    show t_X d 250 22 lv2 [] g P
    refine t_0 vsq_22 rfl (ld_i l6) ?_
    refine t_2 vsq_24 rfl (w := (px_s1 lv2 5 (oI (b)), [])) rfl ?_
    replace l0 : px_lg (px_s1 lv2 5 (oI (b))) 0 = some (pvR 196) := s1_ne (by decide) (fun _ => rfl) l0
    replace l1 : px_lg (px_s1 lv2 5 (oI (b))) 1 = some (oI ((m : Int))) := s1_ne (by decide) (fun _ => rfl) l1
    replace l2 : px_lg (px_s1 lv2 5 (oI (b))) 2 = some (oI ((w : Int))) := s1_ne (by decide) (fun _ => rfl) l2
    replace l6 : px_lg (px_s1 lv2 5 (oI (b))) 6 = some (oI (b)) := s1_ne (by decide) (fun _ => rfl) l6
    replace l7 : px_lg (px_s1 lv2 5 (oI (b))) 7 = some (oI (q)) := s1_ne (by decide) (fun _ => rfl) l7
    replace l8 : px_lg (px_s1 lv2 5 (oI (b))) 8 = some (oI (a)) := s1_ne (by decide) (fun _ => rfl) l8
    have l5 : px_lg (px_s1 lv2 5 (oI (b))) 5 = some (oI (b)) := s1_eq
    generalize px_s1 lv2 5 (oI (b)) = lv3 at l0 l1 l2 l6 l7 l8 l5 ⊢
    show t_X d 250 26 lv3 [] g P
    refine t_0 vsq_26 rfl rfl ?_
    refine t_0 vsq_27 rfl (ld_i l8) ?_
    refine t_0 vsq_29 rfl pq_sub ?_
    refine t_2 vsq_30 rfl (w := (px_s1 lv3 6 (oI (4 - a)), [])) rfl ?_
    replace l0 : px_lg (px_s1 lv3 6 (oI (4 - a))) 0 = some (pvR 196) := s1_ne (by decide) (fun _ => rfl) l0
    replace l1 : px_lg (px_s1 lv3 6 (oI (4 - a))) 1 = some (oI ((m : Int))) := s1_ne (by decide) (fun _ => rfl) l1
    replace l2 : px_lg (px_s1 lv3 6 (oI (4 - a))) 2 = some (oI ((w : Int))) := s1_ne (by decide) (fun _ => rfl) l2
    replace l7 : px_lg (px_s1 lv3 6 (oI (4 - a))) 7 = some (oI (q)) := s1_ne (by decide) (fun _ => rfl) l7
    replace l8 : px_lg (px_s1 lv3 6 (oI (4 - a))) 8 = some (oI (a)) := s1_ne (by decide) (fun _ => rfl) l8
    replace l5 : px_lg (px_s1 lv3 6 (oI (4 - a))) 5 = some (oI (b)) := s1_ne (by decide) (fun _ => rfl) l5
    have l6 : px_lg (px_s1 lv3 6 (oI (4 - a))) 6 = some (oI (4 - a)) := s1_eq
    generalize px_s1 lv3 6 (oI (4 - a)) = lv4 at l0 l1 l2 l7 l8 l5 l6 ⊢
    show t_X d 250 32 lv4 [] g P
    refine t_2 vsq_32 rfl (w := (px_s1 lv4 7 (oI (q + 1)), [])) (pq_inc l7 (by decide)) ?_
    replace l0 : px_lg (px_s1 lv4 7 (oI (q + 1))) 0 = some (pvR 196) := s1_ne (by decide) (fun _ => rfl) l0
    replace l1 : px_lg (px_s1 lv4 7 (oI (q + 1))) 1 = some (oI ((m : Int))) := s1_ne (by decide) (fun _ => rfl) l1
    replace l2 : px_lg (px_s1 lv4 7 (oI (q + 1))) 2 = some (oI ((w : Int))) := s1_ne (by decide) (fun _ => rfl) l2
    replace l8 : px_lg (px_s1 lv4 7 (oI (q + 1))) 8 = some (oI (a)) := s1_ne (by decide) (fun _ => rfl) l8
    replace l5 : px_lg (px_s1 lv4 7 (oI (q + 1))) 5 = some (oI (b)) := s1_ne (by decide) (fun _ => rfl) l5
    replace l6 : px_lg (px_s1 lv4 7 (oI (q + 1))) 6 = some (oI (4 - a)) := s1_ne (by decide) (fun _ => rfl) l6
    have l7 : px_lg (px_s1 lv4 7 (oI (q + 1))) 7 = some (oI (q + 1)) := s1_eq
    generalize px_s1 lv4 7 (oI (q + 1)) = lv5 at l0 l1 l2 l8 l5 l6 l7 ⊢
    show t_X d 250 35 lv5 [] g P
    refine t_1 vsq_35 rfl (pb_goto (pc := 35) (by decide)) ?_
    show t_X d 250 10 lv5 [] g P
    exact ih b (4 - a) _ _ (by omega) (by omega) (by omega) (by omega) hP l0 l1 l2 l5 l6 l7
theorem vsq_tail {m : Nat} (hm : m < 32) {w : Nat} (hw : w < 8) {d : Nat} {g : pH} (hG : g_I eG g) {x y : Int} (hx : 0 ≤ x ∧ x ≤ 4) (hy : 0 ≤ y ∧ y ≤ 4) {P : Option pv × pH → Prop} (hA : P (some (oI (fA g 210 (25 * (m : Int) + qdI w x y).toNat)), g)) {lv : List (Nat × pv)} (l0 : px_lg lv 0 = some (pvR 196)) (l1 : px_lg lv 1 = some (oI (m : Int))) (l2 : px_lg lv 2 = some (oI (w : Int))) (l5 : px_lg lv 5 = some (oI (qtx (w % 4) x y))) (l6 : px_lg lv 6 = some (oI (qty (w % 4) x y))) : t_X d 250 38 lv [] g P := by
  have qb := qt_b (w % 4) x y hx hy
  refine t_0 vsq_38 rfl (ld_a l0) ?_
  refine t_0 vsq_39 rfl (ybcq_196_15 hG) ?_
  show t_X d 250 42 lv [pvR 210] g P
  refine t_0 vsq_42 rfl (pq_b (by decide)) ?_
  refine t_0 vsq_44 rfl (ld_i l1) ?_
  refine t_0 vsq_45 rfl pq_mul ?_
  refine t_0 vsq_46 rfl rfl ?_
  refine t_0 vsq_47 rfl (ld_i l6) ?_
  refine t_0 vsq_49 rfl pq_mul ?_
  refine t_0 vsq_50 rfl pq_add ?_
  refine t_0 vsq_51 rfl (ld_i l2) ?_
  refine t_0 vsq_52 rfl rfl ?_
  refine tb_le vsq_53 (by decide) ⟨by omega, by omega⟩ ⟨by omega, by omega⟩ (fun c1 => ?_) (fun c1 => ?_)
  · show t_X d 250 63 lv [oI ((25 * (m : Int)) + (5 * (qty (w % 4) x y))), pvR 210] g P
    refine t_0 vsq_63 rfl (ld_i l5) ?_
    refine t_0 vsq_65 rfl pq_add ?_
    refine t_0 vsq_66 rfl (pq_ba ybez_210 rfl ⟨by omega, by omega⟩) ?_
    show t_X d 250 67 lv [oI (fA g 210 (((25 * (m : Int)) + (5 * (qty (w % 4) x y))) + (qtx (w % 4) x y)).toNat)] g P
    refine t_5 vsq_67 rfl rfl ?_
    have e9 : ((25 * (m : Int)) + (5 * (qty (w % 4) x y))) + (qtx (w % 4) x y) = 25 * (m : Int) + qdI w x y := by unfold qdI; rw [if_neg (by omega)]; omega
    rw [e9]
    exact hA
  · show t_X d 250 56 lv [oI ((25 * (m : Int)) + (5 * (qty (w % 4) x y))), pvR 210] g P
    refine t_0 vsq_56 rfl rfl ?_
    refine t_0 vsq_57 rfl (ld_i l5) ?_
    refine t_0 vsq_59 rfl pq_sub ?_
    refine t_1 vsq_60 rfl (pb_goto (pc := 60) (by decide)) ?_
    show t_X d 250 65 lv [oI (4 - (qtx (w % 4) x y)), oI ((25 * (m : Int)) + (5 * (qty (w % 4) x y))), pvR 210] g P
    refine t_0 vsq_65 rfl pq_add ?_
    refine t_0 vsq_66 rfl (pq_ba ybez_210 rfl ⟨by omega, by omega⟩) ?_
    show t_X d 250 67 lv [oI (fA g 210 (((25 * (m : Int)) + (5 * (qty (w % 4) x y))) + (4 - (qtx (w % 4) x y))).toNat)] g P
    refine t_5 vsq_67 rfl rfl ?_
    have e9 : ((25 * (m : Int)) + (5 * (qty (w % 4) x y))) + (4 - (qtx (w % 4) x y)) = 25 * (m : Int) + qdI w x y := by unfold qdI; rw [if_pos (by omega)]; omega
    rw [e9]
    exact hA
theorem vsq_run {m : Nat} (hm : m < 32) {w : Nat} (hw : w < 8) {d : Nat} {g : pH} (hG : g_I eG g) {x y : Int} (hx : 0 ≤ x ∧ x ≤ 4) (hy : 0 ≤ y ∧ y ≤ 4) {P : Option pv × pH → Prop} (hA : P (some (oI (fA g 210 (25 * (m : Int) + qdI w x y).toNat)), g)) {lv : List (Nat × pv)} (l0 : px_lg lv 0 = some (pvR 196)) (l1 : px_lg lv 1 = some (oI (m : Int))) (l2 : px_lg lv 2 = some (oI (w : Int))) (l3 : px_lg lv 3 = some (oI x)) (l4 : px_lg lv 4 = some (oI y)) : t_X d 250 0 lv [] g P := by
  refine t_0 vsq_0 rfl (ld_i l3) ?_
  refine t_2 vsq_1 rfl (w := (px_s1 lv 5 (oI (x)), [])) rfl ?_
  replace l0 : px_lg (px_s1 lv 5 (oI (x))) 0 = some (pvR 196) := s1_ne (by decide) (fun _ => rfl) l0
  replace l1 : px_lg (px_s1 lv 5 (oI (x))) 1 = some (oI ((m : Int))) := s1_ne (by decide) (fun _ => rfl) l1
  replace l2 : px_lg (px_s1 lv 5 (oI (x))) 2 = some (oI ((w : Int))) := s1_ne (by decide) (fun _ => rfl) l2
  replace l3 : px_lg (px_s1 lv 5 (oI (x))) 3 = some (oI (x)) := s1_ne (by decide) (fun _ => rfl) l3
  replace l4 : px_lg (px_s1 lv 5 (oI (x))) 4 = some (oI (y)) := s1_ne (by decide) (fun _ => rfl) l4
  have l5 : px_lg (px_s1 lv 5 (oI (x))) 5 = some (oI (x)) := s1_eq
  generalize px_s1 lv 5 (oI (x)) = lv1 at l0 l1 l2 l3 l4 l5 ⊢
  show t_X d 250 3 lv1 [] g P
  refine t_0 vsq_3 rfl (ld_i l4) ?_
  refine t_2 vsq_5 rfl (w := (px_s1 lv1 6 (oI (y)), [])) rfl ?_
  replace l0 : px_lg (px_s1 lv1 6 (oI (y))) 0 = some (pvR 196) := s1_ne (by decide) (fun _ => rfl) l0
  replace l1 : px_lg (px_s1 lv1 6 (oI (y))) 1 = some (oI ((m : Int))) := s1_ne (by decide) (fun _ => rfl) l1
  replace l2 : px_lg (px_s1 lv1 6 (oI (y))) 2 = some (oI ((w : Int))) := s1_ne (by decide) (fun _ => rfl) l2
  replace l3 : px_lg (px_s1 lv1 6 (oI (y))) 3 = some (oI (x)) := s1_ne (by decide) (fun _ => rfl) l3
  replace l4 : px_lg (px_s1 lv1 6 (oI (y))) 4 = some (oI (y)) := s1_ne (by decide) (fun _ => rfl) l4
  replace l5 : px_lg (px_s1 lv1 6 (oI (y))) 5 = some (oI (x)) := s1_ne (by decide) (fun _ => rfl) l5
  have l6 : px_lg (px_s1 lv1 6 (oI (y))) 6 = some (oI (y)) := s1_eq
  generalize px_s1 lv1 6 (oI (y)) = lv2 at l0 l1 l2 l3 l4 l5 l6 ⊢
  show t_X d 250 7 lv2 [] g P
  refine t_0 vsq_7 rfl rfl ?_
  refine t_2 vsq_8 rfl (w := (px_s1 lv2 7 (oI 0), [])) rfl ?_
  replace l0 : px_lg (px_s1 lv2 7 (oI 0)) 0 = some (pvR 196) := s1_ne (by decide) (fun _ => rfl) l0
  replace l1 : px_lg (px_s1 lv2 7 (oI 0)) 1 = some (oI ((m : Int))) := s1_ne (by decide) (fun _ => rfl) l1
  replace l2 : px_lg (px_s1 lv2 7 (oI 0)) 2 = some (oI ((w : Int))) := s1_ne (by decide) (fun _ => rfl) l2
  replace l3 : px_lg (px_s1 lv2 7 (oI 0)) 3 = some (oI (x)) := s1_ne (by decide) (fun _ => rfl) l3
  replace l4 : px_lg (px_s1 lv2 7 (oI 0)) 4 = some (oI (y)) := s1_ne (by decide) (fun _ => rfl) l4
  replace l5 : px_lg (px_s1 lv2 7 (oI 0)) 5 = some (oI (x)) := s1_ne (by decide) (fun _ => rfl) l5
  replace l6 : px_lg (px_s1 lv2 7 (oI 0)) 6 = some (oI (y)) := s1_ne (by decide) (fun _ => rfl) l6
  have l7 : px_lg (px_s1 lv2 7 (oI 0)) 7 = some (oI 0) := s1_eq
  generalize px_s1 lv2 7 (oI 0) = lv3 at l0 l1 l2 l3 l4 l5 l6 l7 ⊢
  show t_X d 250 10 lv3 [] g P
  exact vsq_loop hw (w % 4) x y _ _ (by omega) (by omega) (by omega) (by omega) (fun lv l0 l1 l2 l5 l6 => vsq_tail hm hw hG hx hy hA l0 l1 l2 l5 l6) l0 l1 l2 l5 l6 l7
theorem vts_loop {m : Nat} (hm : m < 32) {w : Nat} (hw : w < 8) {d : Nat} (hd : 2 ≤ d) {g : pH} (hG : g_I eG g) {pic t : tC} (hp : fA g (5 + 2 * m) = pic) (ht : fA g 1 = t) {n : Nat} (hn : n ≤ 8) {P : Option pv × pH → Prop} (h1 : tSb pic t w n = true → P (some (oI 1), g)) (h0 : tSb pic t w n = false → P (some (oI 0), g)) : ∀ (r k : Nat) (lv : List (Nat × pv)), n - k ≤ r → k ≤ n → (∀ j, j < k → okS pic t w j = true) → px_lg lv 0 = some (pvR 0) → px_lg lv 1 = some (pvR (4 + 2 * m)) → px_lg lv 2 = some (oI (w : Int)) → px_lg lv 3 = some (oI (n : Int)) → px_lg lv 4 = some (oI (k : Int)) → t_X d 153 3 lv [] g P := by
  intro r
  induction r with
  | zero =>
    intro k lv hr hkn hK l0 l1 l2 l3 l4
    refine t_0 vts_3 rfl (ld_i l4) ?_
    refine t_0 vts_5 rfl (ld_i l3) ?_
    refine tb_ge vts_6 (by decide) ⟨by omega, by omega⟩ ⟨by omega, by omega⟩ (fun c1 => ?_) (fun c1 => absurd c1 (by omega))
    show t_X d 153 56 lv [] g P
    refine t_0 vts_56 rfl rfl ?_
    refine t_5 vts_57 rfl rfl ?_
    exact h1 (tS_1 (fun j hj => hK j (by omega)))
  | succ r ih =>
    intro k lv hr hkn hK l0 l1 l2 l3 l4
    have pb : ∀ j, -2147483648 ≤ pic j ∧ pic j ≤ 2147483647 := fun j => by rw [← hp]; exact i32_b _
    have pb9 := pb (qdI w (t (3 * k)) (t (3 * k + 1))).toNat
    by_cases hk : k < n
    · skip
      refine t_0 vts_3 rfl (ld_i l4) ?_
      refine t_0 vts_5 rfl (ld_i l3) ?_
      refine tb_ge vts_6 (by decide) ⟨by omega, by omega⟩ ⟨by omega, by omega⟩ (fun c1 => absurd c1 (by omega)) (fun c1 => ?_)
      show t_X d 153 9 lv [] g P
      refine t_0 vts_9 rfl (ld_a l1) ?_
      refine t_0 vts_10 rfl (ld_i l2) ?_
      refine t_0 vts_11 rfl (ld_a l0) ?_
      refine t_0 vts_12 rfl (ybcq_0_0 hG) ?_
      show t_X d 153 15 lv [pvR 1, oI ((w : Int)), pvR (4 + 2 * m)] g P
      refine t_0 vts_15 rfl rfl ?_
      refine t_0 vts_16 rfl (ld_i l4) ?_
      refine t_0 vts_18 rfl pq_mul ?_
      have r2 := pb_a hG ybez_1 (j := 3 * k) (by omega) ybgu_1 ht
      refine t_0 vts_19 rfl (pq_iv ybez_1 rfl ⟨by omega, by omega⟩ ht) ?_
      show t_X d 153 20 lv [oI (t (3 * k)), oI ((w : Int)), pvR (4 + 2 * m)] g P
      refine t_0 vts_20 rfl (ld_a l0) ?_
      refine t_0 vts_21 rfl (ybcq_0_0 hG) ?_
      show t_X d 153 24 lv [pvR 1, oI (t (3 * k)), oI ((w : Int)), pvR (4 + 2 * m)] g P
      refine t_0 vts_24 rfl rfl ?_
      refine t_0 vts_25 rfl (ld_i l4) ?_
      refine t_0 vts_27 rfl pq_mul ?_
      refine t_0 vts_28 rfl rfl ?_
      refine t_0 vts_29 rfl pq_add ?_
      have r3 := pb_a hG ybez_1 (j := 3 * k + 1) (by omega) ybgu_1 ht
      refine t_0 vts_30 rfl (pq_iv ybez_1 rfl ⟨by omega, by omega⟩ ht) ?_
      show t_X d 153 31 lv [oI (t (3 * k + 1)), oI (t (3 * k)), oI ((w : Int)), pvR (4 + 2 * m)] g P
      refine t_3 vts_31 rfl (ar := ([pvR (4 + 2 * m), oI ((w : Int)), oI (t (3 * k)), oI (t (3 * k + 1))], [])) (pcal_w (as := [oI (t (3 * k + 1)), oI (t (3 * k)), oI ((w : Int))]) rfl rfl rfl (el_s4 hm)) ⟨by omega, Nat.le_of_ble_eq_true rfl, Nat.le_of_ble_eq_true rfl, rfl⟩ ?_
      refine vsy_run hm hw hG hp ⟨by omega, by omega⟩ ⟨by omega, by omega⟩ (by omega) (fun cc8 => ?_) (fun cc8 => ?_) rfl rfl rfl rfl
      · show t_X d 153 34 lv [oI (pic (qdI w (t (3 * k)) (t (3 * k + 1))).toNat)] g P
        refine t_0 vts_34 rfl (ld_a l0) ?_
        refine t_0 vts_35 rfl (ybcq_0_0 hG) ?_
        show t_X d 153 38 lv [pvR 1, oI (pic (qdI w (t (3 * k)) (t (3 * k + 1))).toNat)] g P
        refine t_0 vts_38 rfl rfl ?_
        refine t_0 vts_39 rfl (ld_i l4) ?_
        refine t_0 vts_41 rfl pq_mul ?_
        refine t_0 vts_42 rfl rfl ?_
        refine t_0 vts_43 rfl pq_add ?_
        have r4 := pb_a hG ybez_1 (j := 3 * k + 2) (by omega) ybgu_1 ht
        refine t_0 vts_44 rfl (pq_iv ybez_1 rfl ⟨by omega, by omega⟩ ht) ?_
        show t_X d 153 45 lv [oI (t (3 * k + 2)), oI (pic (qdI w (t (3 * k)) (t (3 * k + 1))).toNat)] g P
        refine tb_eq vts_45 (by decide) ⟨by omega, by omega⟩ ⟨by omega, by omega⟩ (fun c5 => ?_) (fun c5 => ?_)
        · show t_X d 153 50 lv [] g P
          refine t_2 vts_50 rfl (w := (px_s1 lv 4 (oI ((k : Int) + 1)), [])) (pq_inc l4 (by decide)) ?_
          replace l0 : px_lg (px_s1 lv 4 (oI ((k : Int) + 1))) 0 = some (pvR 0) := s1_ne (by decide) (fun _ => rfl) l0
          replace l1 : px_lg (px_s1 lv 4 (oI ((k : Int) + 1))) 1 = some (pvR (4 + 2 * m)) := s1_ne (by decide) (fun _ => rfl) l1
          replace l2 : px_lg (px_s1 lv 4 (oI ((k : Int) + 1))) 2 = some (oI ((w : Int))) := s1_ne (by decide) (fun _ => rfl) l2
          replace l3 : px_lg (px_s1 lv 4 (oI ((k : Int) + 1))) 3 = some (oI ((n : Int))) := s1_ne (by decide) (fun _ => rfl) l3
          have l4 : px_lg (px_s1 lv 4 (oI ((k : Int) + 1))) 4 = some (oI ((k : Int) + 1)) := s1_eq
          generalize px_s1 lv 4 (oI ((k : Int) + 1)) = lv6 at l0 l1 l2 l3 l4 ⊢
          show t_X d 153 53 lv6 [] g P
          refine t_1 vts_53 rfl (pb_goto (pc := 53) (by decide)) ?_
          show t_X d 153 3 lv6 [] g P
          exact ih (k + 1) _ (by omega) (by omega) (fun j hj => by rcases Nat.lt_or_ge j k with z | z; exact hK j z; rw [show j = k by omega]; exact okS_1 cc8.1 cc8.2 (by omega)) l0 l1 l2 l3 l4
        · show t_X d 153 48 lv [] g P
          refine t_0 vts_48 rfl rfl ?_
          refine t_5 vts_49 rfl rfl ?_
          exact h0 (tS_0 hk (okS_0 (fun z => by have z9 := z.2.2; omega)))
      · show t_X d 153 34 lv [oI (-1)] g P
        refine t_0 vts_34 rfl (ld_a l0) ?_
        refine t_0 vts_35 rfl (ybcq_0_0 hG) ?_
        show t_X d 153 38 lv [pvR 1, oI (-1)] g P
        refine t_0 vts_38 rfl rfl ?_
        refine t_0 vts_39 rfl (ld_i l4) ?_
        refine t_0 vts_41 rfl pq_mul ?_
        refine t_0 vts_42 rfl rfl ?_
        refine t_0 vts_43 rfl pq_add ?_
        have r7 := pb_a hG ybez_1 (j := 3 * k + 2) (by omega) ybgu_1 ht
        refine t_0 vts_44 rfl (pq_iv ybez_1 rfl ⟨by omega, by omega⟩ ht) ?_
        show t_X d 153 45 lv [oI (t (3 * k + 2)), oI (-1)] g P
        refine tb_eq vts_45 (by decide) ⟨by omega, by omega⟩ ⟨by omega, by omega⟩ (fun c8 => ?_) (fun c8 => ?_)
        · show t_X d 153 50 lv [] g P
          refine t_2 vts_50 rfl (w := (px_s1 lv 4 (oI ((k : Int) + 1)), [])) (pq_inc l4 (by decide)) ?_
          replace l0 : px_lg (px_s1 lv 4 (oI ((k : Int) + 1))) 0 = some (pvR 0) := s1_ne (by decide) (fun _ => rfl) l0
          replace l1 : px_lg (px_s1 lv 4 (oI ((k : Int) + 1))) 1 = some (pvR (4 + 2 * m)) := s1_ne (by decide) (fun _ => rfl) l1
          replace l2 : px_lg (px_s1 lv 4 (oI ((k : Int) + 1))) 2 = some (oI ((w : Int))) := s1_ne (by decide) (fun _ => rfl) l2
          replace l3 : px_lg (px_s1 lv 4 (oI ((k : Int) + 1))) 3 = some (oI ((n : Int))) := s1_ne (by decide) (fun _ => rfl) l3
          have l4 : px_lg (px_s1 lv 4 (oI ((k : Int) + 1))) 4 = some (oI ((k : Int) + 1)) := s1_eq
          generalize px_s1 lv 4 (oI ((k : Int) + 1)) = lv9 at l0 l1 l2 l3 l4 ⊢
          show t_X d 153 53 lv9 [] g P
          refine t_1 vts_53 rfl (pb_goto (pc := 53) (by decide)) ?_
          show t_X d 153 3 lv9 [] g P
          exfalso; omega
        · show t_X d 153 48 lv [] g P
          refine t_0 vts_48 rfl rfl ?_
          refine t_5 vts_49 rfl rfl ?_
          exact h0 (tS_0 hk (okS_0 (fun z => by have z9 := z.2.2; omega)))
    · skip
      refine t_0 vts_3 rfl (ld_i l4) ?_
      refine t_0 vts_5 rfl (ld_i l3) ?_
      refine tb_ge vts_6 (by decide) ⟨by omega, by omega⟩ ⟨by omega, by omega⟩ (fun c1 => ?_) (fun c1 => absurd c1 (by omega))
      show t_X d 153 56 lv [] g P
      refine t_0 vts_56 rfl rfl ?_
      refine t_5 vts_57 rfl rfl ?_
      exact h1 (tS_1 (fun j hj => hK j (by omega)))
theorem vts_run {m : Nat} (hm : m < 32) {w : Nat} (hw : w < 8) {d : Nat} (hd : 2 ≤ d) {g : pH} (hG : g_I eG g) {pic t : tC} (hp : fA g (5 + 2 * m) = pic) (ht : fA g 1 = t) {n : Nat} (hn : n ≤ 8) {P : Option pv × pH → Prop} (h1 : tSb pic t w n = true → P (some (oI 1), g)) (h0 : tSb pic t w n = false → P (some (oI 0), g)) {lv : List (Nat × pv)} (l0 : px_lg lv 0 = some (pvR 0)) (l1 : px_lg lv 1 = some (pvR (4 + 2 * m))) (l2 : px_lg lv 2 = some (oI (w : Int))) (l3 : px_lg lv 3 = some (oI (n : Int))) : t_X d 153 0 lv [] g P := by
  refine t_0 vts_0 rfl rfl ?_
  refine t_2 vts_1 rfl (w := (px_s1 lv 4 (oI 0), [])) rfl ?_
  replace l0 : px_lg (px_s1 lv 4 (oI 0)) 0 = some (pvR 0) := s1_ne (by decide) (fun _ => rfl) l0
  replace l1 : px_lg (px_s1 lv 4 (oI 0)) 1 = some (pvR (4 + 2 * m)) := s1_ne (by decide) (fun _ => rfl) l1
  replace l2 : px_lg (px_s1 lv 4 (oI 0)) 2 = some (oI ((w : Int))) := s1_ne (by decide) (fun _ => rfl) l2
  replace l3 : px_lg (px_s1 lv 4 (oI 0)) 3 = some (oI ((n : Int))) := s1_ne (by decide) (fun _ => rfl) l3
  have l4 : px_lg (px_s1 lv 4 (oI 0)) 4 = some (oI 0) := s1_eq
  generalize px_s1 lv 4 (oI 0) = lv1 at l0 l1 l2 l3 l4 ⊢
  show t_X d 153 3 lv1 [] g P
  exact vts_loop hm hw hd hG hp ht hn h1 h0 n 0 _ (by omega) (by omega) (fun j hj => absurd hj (Nat.not_lt_zero j)) l0 l1 l2 l3 l4
theorem vsh_loop {m : Nat} (hm : m < 32) {w : Nat} (hw : w < 8) {d : Nat} (hd : 2 ≤ d) {g : pH} (hG : g_I eG g) {pic t : tC} (hp : ∀ j : Nat, j < 25 → pic j = fA g 210 (25 * m + j)) (ht0 : ∀ k : Nat, k < 260 → t k = fA g 211 k % 256) (ht : ∀ k : Nat, k < 260 → -128 ≤ fA g 211 k ∧ fA g 211 k ≤ 127) {n : Nat} (hn : n ≤ 8) (hpb : ∀ j, -2147483648 ≤ pic j ∧ pic j ≤ 2147483647) {P : Option pv × pH → Prop} (h1 : tSb pic t w n = true → P (some (oI 1), g)) (h0 : tSb pic t w n = false → P (some (oI 0), g)) : ∀ (r k : Nat) (lv : List (Nat × pv)), n - k ≤ r → k ≤ n → (∀ j, j < k → okS pic t w j = true) → px_lg lv 0 = some (pvR 196) → px_lg lv 1 = some (oI (m : Int)) → px_lg lv 2 = some (oI (w : Int)) → px_lg lv 3 = some (oI (n : Int)) → px_lg lv 4 = some (oI (k : Int)) → t_X d 249 3 lv [] g P := by
  intro r
  induction r with
  | zero =>
    intro k lv hr hkn hK l0 l1 l2 l3 l4
    refine t_0 vsh_3 rfl (ld_i l4) ?_
    refine t_0 vsh_5 rfl (ld_i l3) ?_
    refine tb_ge vsh_6 (by decide) ⟨by omega, by omega⟩ ⟨by omega, by omega⟩ (fun c1 => ?_) (fun c1 => absurd c1 (by omega))
    show t_X d 249 89 lv [] g P
    refine t_0 vsh_89 rfl rfl ?_
    refine t_5 vsh_90 rfl rfl ?_
    exact h1 (tS_1 (fun j hj => hK j (by omega)))
  | succ r ih =>
    intro k lv hr hkn hK l0 l1 l2 l3 l4
    by_cases hk : k < n
    · have t0 := ht0 (3 * k) (by omega)
      have t1 := ht0 (3 * k + 1) (by omega)
      have t2 := ht0 (3 * k + 2) (by omega)
      have pb9 := hpb (qdI w (t (3 * k)) (t (3 * k + 1))).toNat
      refine t_0 vsh_3 rfl (ld_i l4) ?_
      refine t_0 vsh_5 rfl (ld_i l3) ?_
      refine tb_ge vsh_6 (by decide) ⟨by omega, by omega⟩ ⟨by omega, by omega⟩ (fun c1 => absurd c1 (by omega)) (fun c1 => ?_)
      show t_X d 249 9 lv [] g P
      refine t_0 vsh_9 rfl (ld_a l0) ?_
      refine t_0 vsh_10 rfl (ybcq_196_16 hG) ?_
      show t_X d 249 13 lv [pvR 211] g P
      refine t_0 vsh_13 rfl rfl ?_
      refine t_0 vsh_14 rfl (ld_i l4) ?_
      refine t_0 vsh_16 rfl pq_mul ?_
      have r2 := ht (3 * k) (by omega)
      refine t_0 vsh_17 rfl (pq_ba ybez_211 rfl ⟨by omega, by omega⟩) ?_
      show t_X d 249 18 lv [oI (fA g 211 (3 * k))] g P
      refine t_0 vsh_18 rfl (pq_s (by decide)) ?_
      refine t_0 vsh_21 rfl (pq_25 ⟨by omega, by omega⟩) ?_
      refine t_2 vsh_22 rfl (w := (px_s1 lv 5 (oI (fA g 211 (3 * k) % 256)), [])) rfl ?_
      replace l0 : px_lg (px_s1 lv 5 (oI (fA g 211 (3 * k) % 256))) 0 = some (pvR 196) := s1_ne (by decide) (fun _ => rfl) l0
      replace l1 : px_lg (px_s1 lv 5 (oI (fA g 211 (3 * k) % 256))) 1 = some (oI ((m : Int))) := s1_ne (by decide) (fun _ => rfl) l1
      replace l2 : px_lg (px_s1 lv 5 (oI (fA g 211 (3 * k) % 256))) 2 = some (oI ((w : Int))) := s1_ne (by decide) (fun _ => rfl) l2
      replace l3 : px_lg (px_s1 lv 5 (oI (fA g 211 (3 * k) % 256))) 3 = some (oI ((n : Int))) := s1_ne (by decide) (fun _ => rfl) l3
      replace l4 : px_lg (px_s1 lv 5 (oI (fA g 211 (3 * k) % 256))) 4 = some (oI ((k : Int))) := s1_ne (by decide) (fun _ => rfl) l4
      have l5 : px_lg (px_s1 lv 5 (oI (fA g 211 (3 * k) % 256))) 5 = some (oI (fA g 211 (3 * k) % 256)) := s1_eq
      generalize px_s1 lv 5 (oI (fA g 211 (3 * k) % 256)) = lv3 at l0 l1 l2 l3 l4 l5 ⊢
      show t_X d 249 24 lv3 [] g P
      refine t_0 vsh_24 rfl (ld_a l0) ?_
      refine t_0 vsh_25 rfl (ybcq_196_16 hG) ?_
      show t_X d 249 28 lv3 [pvR 211] g P
      refine t_0 vsh_28 rfl rfl ?_
      refine t_0 vsh_29 rfl (ld_i l4) ?_
      refine t_0 vsh_31 rfl pq_mul ?_
      refine t_0 vsh_32 rfl rfl ?_
      refine t_0 vsh_33 rfl pq_add ?_
      have r4 := ht (3 * k + 1) (by omega)
      refine t_0 vsh_34 rfl (pq_ba ybez_211 rfl ⟨by omega, by omega⟩) ?_
      show t_X d 249 35 lv3 [oI (fA g 211 (3 * k + 1))] g P
      refine t_0 vsh_35 rfl (pq_s (by decide)) ?_
      refine t_0 vsh_38 rfl (pq_25 ⟨by omega, by omega⟩) ?_
      refine t_2 vsh_39 rfl (w := (px_s1 lv3 6 (oI (fA g 211 (3 * k + 1) % 256)), [])) rfl ?_
      replace l0 : px_lg (px_s1 lv3 6 (oI (fA g 211 (3 * k + 1) % 256))) 0 = some (pvR 196) := s1_ne (by decide) (fun _ => rfl) l0
      replace l1 : px_lg (px_s1 lv3 6 (oI (fA g 211 (3 * k + 1) % 256))) 1 = some (oI ((m : Int))) := s1_ne (by decide) (fun _ => rfl) l1
      replace l2 : px_lg (px_s1 lv3 6 (oI (fA g 211 (3 * k + 1) % 256))) 2 = some (oI ((w : Int))) := s1_ne (by decide) (fun _ => rfl) l2
      replace l3 : px_lg (px_s1 lv3 6 (oI (fA g 211 (3 * k + 1) % 256))) 3 = some (oI ((n : Int))) := s1_ne (by decide) (fun _ => rfl) l3
      replace l4 : px_lg (px_s1 lv3 6 (oI (fA g 211 (3 * k + 1) % 256))) 4 = some (oI ((k : Int))) := s1_ne (by decide) (fun _ => rfl) l4
      replace l5 : px_lg (px_s1 lv3 6 (oI (fA g 211 (3 * k + 1) % 256))) 5 = some (oI (fA g 211 (3 * k) % 256)) := s1_ne (by decide) (fun _ => rfl) l5
      have l6 : px_lg (px_s1 lv3 6 (oI (fA g 211 (3 * k + 1) % 256))) 6 = some (oI (fA g 211 (3 * k + 1) % 256)) := s1_eq
      generalize px_s1 lv3 6 (oI (fA g 211 (3 * k + 1) % 256)) = lv5 at l0 l1 l2 l3 l4 l5 l6 ⊢
      show t_X d 249 41 lv5 [] g P
      refine t_0 vsh_41 rfl (ld_i l5) ?_
      refine t_0 vsh_43 rfl rfl ?_
      refine tb_gt vsh_44 (by decide) ⟨by omega, by omega⟩ ⟨by omega, by omega⟩ (fun c6 => ?_) (fun c6 => ?_)
      · show t_X d 249 81 lv5 [] g P
        refine t_0 vsh_81 rfl rfl ?_
        refine t_5 vsh_82 rfl rfl ?_
        exact h0 (tS_0 hk (okS_0 (fun z => by have z7 := z.1; have z8 := z.2.1; have z9 := z.2.2; omega)))
      · show t_X d 249 47 lv5 [] g P
        refine t_0 vsh_47 rfl (ld_i l6) ?_
        refine t_0 vsh_49 rfl rfl ?_
        refine tb_gt vsh_50 (by decide) ⟨by omega, by omega⟩ ⟨by omega, by omega⟩ (fun c7 => ?_) (fun c7 => ?_)
        · show t_X d 249 81 lv5 [] g P
          refine t_0 vsh_81 rfl rfl ?_
          refine t_5 vsh_82 rfl rfl ?_
          exact h0 (tS_0 hk (okS_0 (fun z => by have z7 := z.1; have z8 := z.2.1; have z9 := z.2.2; omega)))
        · show t_X d 249 53 lv5 [] g P
          refine t_0 vsh_53 rfl (ld_a l0) ?_
          refine t_0 vsh_54 rfl (ld_i l1) ?_
          refine t_0 vsh_55 rfl (ld_i l2) ?_
          refine t_0 vsh_56 rfl (ld_i l5) ?_
          refine t_0 vsh_58 rfl (ld_i l6) ?_
          refine t_3 vsh_60 rfl (ar := ([pvR 196, oI ((m : Int)), oI ((w : Int)), oI (fA g 211 (3 * k) % 256), oI (fA g 211 (3 * k + 1) % 256)], [])) (pcal_w (as := [oI (fA g 211 (3 * k + 1) % 256), oI (fA g 211 (3 * k) % 256), oI ((w : Int)), oI ((m : Int))]) rfl rfl rfl ybeo_196) ⟨by omega, Nat.le_of_ble_eq_true rfl, Nat.le_of_ble_eq_true rfl, rfl⟩ ?_
          refine vsq_run hm hw hG ⟨by omega, by omega⟩ ⟨by omega, by omega⟩ ?_ rfl rfl rfl rfl rfl
          rw [show fA g 210 (25 * (m : Int) + qdI w (fA g 211 (3 * k) % 256) (fA g 211 (3 * k + 1) % 256)).toNat = pic (qdI w (t (3 * k)) (t (3 * k + 1))).toNat from by rw [hp _ (by have q9 := qdI_b (w := w) (x := t (3 * k)) (y := t (3 * k + 1)) ⟨by omega, by omega⟩ ⟨by omega, by omega⟩; omega), ← ht0 _ (show 3 * k < 260 by omega), ← ht0 _ (show 3 * k + 1 < 260 by omega)]; have q9 := qdI_b (w := w) (x := t (3 * k)) (y := t (3 * k + 1)) ⟨by omega, by omega⟩ ⟨by omega, by omega⟩; congr 1; omega]
          show t_X d 249 63 lv5 [oI (pic (qdI w (t (3 * k)) (t (3 * k + 1))).toNat)] g P
          refine t_0 vsh_63 rfl (ld_a l0) ?_
          refine t_0 vsh_64 rfl (ybcq_196_16 hG) ?_
          show t_X d 249 67 lv5 [pvR 211, oI (pic (qdI w (t (3 * k)) (t (3 * k + 1))).toNat)] g P
          refine t_0 vsh_67 rfl rfl ?_
          refine t_0 vsh_68 rfl (ld_i l4) ?_
          refine t_0 vsh_70 rfl pq_mul ?_
          refine t_0 vsh_71 rfl rfl ?_
          refine t_0 vsh_72 rfl pq_add ?_
          have r8 := ht (3 * k + 2) (by omega)
          refine t_0 vsh_73 rfl (pq_ba ybez_211 rfl ⟨by omega, by omega⟩) ?_
          show t_X d 249 74 lv5 [oI (fA g 211 (3 * k + 2)), oI (pic (qdI w (t (3 * k)) (t (3 * k + 1))).toNat)] g P
          refine t_0 vsh_74 rfl (pq_s (by decide)) ?_
          refine t_0 vsh_77 rfl (pq_25 ⟨by omega, by omega⟩) ?_
          refine tb_eq vsh_78 (by decide) ⟨by omega, by omega⟩ ⟨by omega, by omega⟩ (fun c9 => ?_) (fun c9 => ?_)
          · show t_X d 249 83 lv5 [] g P
            refine t_2 vsh_83 rfl (w := (px_s1 lv5 4 (oI ((k : Int) + 1)), [])) (pq_inc l4 (by decide)) ?_
            replace l0 : px_lg (px_s1 lv5 4 (oI ((k : Int) + 1))) 0 = some (pvR 196) := s1_ne (by decide) (fun _ => rfl) l0
            replace l1 : px_lg (px_s1 lv5 4 (oI ((k : Int) + 1))) 1 = some (oI ((m : Int))) := s1_ne (by decide) (fun _ => rfl) l1
            replace l2 : px_lg (px_s1 lv5 4 (oI ((k : Int) + 1))) 2 = some (oI ((w : Int))) := s1_ne (by decide) (fun _ => rfl) l2
            replace l3 : px_lg (px_s1 lv5 4 (oI ((k : Int) + 1))) 3 = some (oI ((n : Int))) := s1_ne (by decide) (fun _ => rfl) l3
            replace l5 : px_lg (px_s1 lv5 4 (oI ((k : Int) + 1))) 5 = some (oI (fA g 211 (3 * k) % 256)) := s1_ne (by decide) (fun _ => rfl) l5
            replace l6 : px_lg (px_s1 lv5 4 (oI ((k : Int) + 1))) 6 = some (oI (fA g 211 (3 * k + 1) % 256)) := s1_ne (by decide) (fun _ => rfl) l6
            have l4 : px_lg (px_s1 lv5 4 (oI ((k : Int) + 1))) 4 = some (oI ((k : Int) + 1)) := s1_eq
            generalize px_s1 lv5 4 (oI ((k : Int) + 1)) = lv10 at l0 l1 l2 l3 l5 l6 l4 ⊢
            show t_X d 249 86 lv10 [] g P
            refine t_1 vsh_86 rfl (pb_goto (pc := 86) (by decide)) ?_
            show t_X d 249 3 lv10 [] g P
            exact ih (k + 1) _ (by omega) (by omega) (fun j hj => by rcases Nat.lt_or_ge j k with z | z; exact hK j z; rw [show j = k by omega]; exact okS_1 ⟨by omega, by omega⟩ ⟨by omega, by omega⟩ (by omega)) l0 l1 l2 l3 l4
          · show t_X d 249 81 lv5 [] g P
            refine t_0 vsh_81 rfl rfl ?_
            refine t_5 vsh_82 rfl rfl ?_
            exact h0 (tS_0 hk (okS_0 (fun z => by have z7 := z.1; have z8 := z.2.1; have z9 := z.2.2; omega)))
    · skip
      refine t_0 vsh_3 rfl (ld_i l4) ?_
      refine t_0 vsh_5 rfl (ld_i l3) ?_
      refine tb_ge vsh_6 (by decide) ⟨by omega, by omega⟩ ⟨by omega, by omega⟩ (fun c1 => ?_) (fun c1 => absurd c1 (by omega))
      show t_X d 249 89 lv [] g P
      refine t_0 vsh_89 rfl rfl ?_
      refine t_5 vsh_90 rfl rfl ?_
      exact h1 (tS_1 (fun j hj => hK j (by omega)))
theorem vsh_run {m : Nat} (hm : m < 32) {w : Nat} (hw : w < 8) {d : Nat} (hd : 2 ≤ d) {g : pH} (hG : g_I eG g) {pic t : tC} (hp : ∀ j : Nat, j < 25 → pic j = fA g 210 (25 * m + j)) (ht0 : ∀ k : Nat, k < 260 → t k = fA g 211 k % 256) (ht : ∀ k : Nat, k < 260 → -128 ≤ fA g 211 k ∧ fA g 211 k ≤ 127) {n : Nat} (hn : n ≤ 8) (hpb : ∀ j, -2147483648 ≤ pic j ∧ pic j ≤ 2147483647) {P : Option pv × pH → Prop} (h1 : tSb pic t w n = true → P (some (oI 1), g)) (h0 : tSb pic t w n = false → P (some (oI 0), g)) {lv : List (Nat × pv)} (l0 : px_lg lv 0 = some (pvR 196)) (l1 : px_lg lv 1 = some (oI (m : Int))) (l2 : px_lg lv 2 = some (oI (w : Int))) (l3 : px_lg lv 3 = some (oI (n : Int))) : t_X d 249 0 lv [] g P := by
  refine t_0 vsh_0 rfl rfl ?_
  refine t_2 vsh_1 rfl (w := (px_s1 lv 4 (oI 0), [])) rfl ?_
  replace l0 : px_lg (px_s1 lv 4 (oI 0)) 0 = some (pvR 196) := s1_ne (by decide) (fun _ => rfl) l0
  replace l1 : px_lg (px_s1 lv 4 (oI 0)) 1 = some (oI ((m : Int))) := s1_ne (by decide) (fun _ => rfl) l1
  replace l2 : px_lg (px_s1 lv 4 (oI 0)) 2 = some (oI ((w : Int))) := s1_ne (by decide) (fun _ => rfl) l2
  replace l3 : px_lg (px_s1 lv 4 (oI 0)) 3 = some (oI ((n : Int))) := s1_ne (by decide) (fun _ => rfl) l3
  have l4 : px_lg (px_s1 lv 4 (oI 0)) 4 = some (oI 0) := s1_eq
  generalize px_s1 lv 4 (oI 0) = lv1 at l0 l1 l2 l3 l4 ⊢
  show t_X d 249 3 lv1 [] g P
  exact vsh_loop hm hw hd hG hp ht0 ht hn hpb h1 h0 n 0 _ (by omega) (by omega) (fun j hj => absurd hj (Nat.not_lt_zero j)) l0 l1 l2 l3 l4
