/-! turning: the class asks, and what sets cost (printed by wip/e2/x25.py) -/
theorem vca_0 : xe_look (xc 99) 0 = some (.aload_n 0, 1, 0, 0, 0) := by decide +kernel
theorem vca_1 : xe_look (xc 99) 1 = some (.iconst 0, 1, 0, 0, 0) := by decide +kernel
theorem vca_2 : xe_look (xc 99) 2 = some (.putfield 38, 3, 10, 0, 963) := by decide +kernel
theorem vca_5 : xe_look (xc 99) 5 = some (.iconst 0, 1, 0, 0, 0) := by decide +kernel
theorem vca_6 : xe_look (xc 99) 6 = some (.istore_n 3, 1, 0, 0, 0) := by decide +kernel
theorem vca_7 : xe_look (xc 99) 7 = some (.iload_n 3, 1, 0, 0, 0) := by decide +kernel
theorem vca_8 : xe_look (xc 99) 8 = some (.bipush 8, 2, 0, 0, 0) := by decide +kernel
theorem vca_10 : xe_look (xc 99) 10 = some (.if_icmp .ge 102, 3, 0, 0, 0) := by decide +kernel
theorem vca_13 : xe_look (xc 99) 13 = some (.aload_n 0, 1, 0, 0, 0) := by decide +kernel
theorem vca_14 : xe_look (xc 99) 14 = some (.getfield 9, 3, 10, 1, 964) := by decide +kernel
theorem vca_17 : xe_look (xc 99) 17 = some (.iload_n 3, 1, 0, 0, 0) := by decide +kernel
theorem vca_18 : xe_look (xc 99) 18 = some (.aload_n 2, 1, 0, 0, 0) := by decide +kernel
theorem vca_19 : xe_look (xc 99) 19 = some (.aload_n 1, 1, 0, 0, 0) := by decide +kernel
theorem vca_20 : xe_look (xc 99) 20 = some (.iload_n 3, 1, 0, 0, 0) := by decide +kernel
theorem vca_21 : xe_look (xc 99) 21 = some (.invokevirtual 53, 3, 0, 22, 965) := by decide +kernel
theorem vca_24 : xe_look (xc 99) 24 = some (.iastore, 1, 0, 0, 0) := by decide +kernel
theorem vca_25 : xe_look (xc 99) 25 = some (.aload_n 0, 1, 0, 0, 0) := by decide +kernel
theorem vca_26 : xe_look (xc 99) 26 = some (.dup, 1, 0, 0, 0) := by decide +kernel
theorem vca_27 : xe_look (xc 99) 27 = some (.getfield 38, 3, 10, 0, 963) := by decide +kernel
theorem vca_30 : xe_look (xc 99) 30 = some (.aload_n 0, 1, 0, 0, 0) := by decide +kernel
theorem vca_31 : xe_look (xc 99) 31 = some (.getfield 9, 3, 10, 1, 964) := by decide +kernel
theorem vca_34 : xe_look (xc 99) 34 = some (.iload_n 3, 1, 0, 0, 0) := by decide +kernel
theorem vca_35 : xe_look (xc 99) 35 = some (.iaload, 1, 0, 0, 0) := by decide +kernel
theorem vca_36 : xe_look (xc 99) 36 = some (.iadd, 1, 0, 0, 0) := by decide +kernel
theorem vca_37 : xe_look (xc 99) 37 = some (.putfield 38, 3, 10, 0, 963) := by decide +kernel
theorem vca_40 : xe_look (xc 99) 40 = some (.aload_n 0, 1, 0, 0, 0) := by decide +kernel
theorem vca_41 : xe_look (xc 99) 41 = some (.getfield 15, 3, 10, 2, 966) := by decide +kernel
theorem vca_44 : xe_look (xc 99) 44 = some (.iload_n 3, 1, 0, 0, 0) := by decide +kernel
theorem vca_45 : xe_look (xc 99) 45 = some (.aload_n 2, 1, 0, 0, 0) := by decide +kernel
theorem vca_46 : xe_look (xc 99) 46 = some (.aload_n 1, 1, 0, 0, 0) := by decide +kernel
theorem vca_47 : xe_look (xc 99) 47 = some (.iload_n 3, 1, 0, 0, 0) := by decide +kernel
theorem vca_48 : xe_look (xc 99) 48 = some (.iconst 0, 1, 0, 0, 0) := by decide +kernel
theorem vca_49 : xe_look (xc 99) 49 = some (.invokevirtual 58, 3, 0, 29, 967) := by decide +kernel
theorem vca_52 : xe_look (xc 99) 52 = some (.iastore, 1, 0, 0, 0) := by decide +kernel
theorem vca_53 : xe_look (xc 99) 53 = some (.aload_n 0, 1, 0, 0, 0) := by decide +kernel
theorem vca_54 : xe_look (xc 99) 54 = some (.getfield 18, 3, 10, 3, 968) := by decide +kernel
theorem vca_57 : xe_look (xc 99) 57 = some (.iload_n 3, 1, 0, 0, 0) := by decide +kernel
theorem vca_58 : xe_look (xc 99) 58 = some (.iconst 0, 1, 0, 0, 0) := by decide +kernel
theorem vca_59 : xe_look (xc 99) 59 = some (.iastore, 1, 0, 0, 0) := by decide +kernel
theorem vca_60 : xe_look (xc 99) 60 = some (.iconst 0, 1, 0, 0, 0) := by decide +kernel
theorem vca_61 : xe_look (xc 99) 61 = some (.istore 4, 2, 0, 0, 0) := by decide +kernel
theorem vca_63 : xe_look (xc 99) 63 = some (.iload 4, 2, 0, 0, 0) := by decide +kernel
theorem vca_65 : xe_look (xc 99) 65 = some (.bipush 8, 2, 0, 0, 0) := by decide +kernel
theorem vca_67 : xe_look (xc 99) 67 = some (.if_icmp .ge 39, 3, 0, 0, 0) := by decide +kernel
theorem vca_70 : xe_look (xc 99) 70 = some (.aload_n 0, 1, 0, 0, 0) := by decide +kernel
theorem vca_71 : xe_look (xc 99) 71 = some (.getfield 18, 3, 10, 3, 968) := by decide +kernel
theorem vca_74 : xe_look (xc 99) 74 = some (.iload_n 3, 1, 0, 0, 0) := by decide +kernel
theorem vca_75 : xe_look (xc 99) 75 = some (.dup2, 1, 0, 0, 0) := by decide +kernel
theorem vca_76 : xe_look (xc 99) 76 = some (.iaload, 1, 0, 0, 0) := by decide +kernel
theorem vca_77 : xe_look (xc 99) 77 = some (.aload_n 1, 1, 0, 0, 0) := by decide +kernel
theorem vca_78 : xe_look (xc 99) 78 = some (.iload 4, 2, 0, 0, 0) := by decide +kernel
theorem vca_80 : xe_look (xc 99) 80 = some (.iload_n 3, 1, 0, 0, 0) := by decide +kernel
theorem vca_81 : xe_look (xc 99) 81 = some (.invokestatic 61, 3, 1, 163, 8) := by decide +kernel
theorem vca_84 : xe_look (xc 99) 84 = some (.invokevirtual 64, 3, 0, 75, 969) := by decide +kernel
theorem vca_87 : xe_look (xc 99) 87 = some (.ifCond .eq 10, 3, 0, 0, 0) := by decide +kernel
theorem vca_90 : xe_look (xc 99) 90 = some (.iconst 1, 1, 0, 0, 0) := by decide +kernel
theorem vca_91 : xe_look (xc 99) 91 = some (.iload 4, 2, 0, 0, 0) := by decide +kernel
theorem vca_93 : xe_look (xc 99) 93 = some (.ishl, 1, 0, 0, 0) := by decide +kernel
theorem vca_94 : xe_look (xc 99) 94 = some (.goto 4, 3, 0, 0, 0) := by decide +kernel
theorem vca_97 : xe_look (xc 99) 97 = some (.iconst 0, 1, 0, 0, 0) := by decide +kernel
theorem vca_98 : xe_look (xc 99) 98 = some (.ior, 1, 0, 0, 0) := by decide +kernel
theorem vca_99 : xe_look (xc 99) 99 = some (.iastore, 1, 0, 0, 0) := by decide +kernel
theorem vca_100 : xe_look (xc 99) 100 = some (.iinc 4 1, 3, 0, 0, 0) := by decide +kernel
theorem vca_103 : xe_look (xc 99) 103 = some (.goto (-40), 3, 0, 0, 0) := by decide +kernel
theorem vca_106 : xe_look (xc 99) 106 = some (.iinc 3 1, 3, 0, 0, 0) := by decide +kernel
theorem vca_109 : xe_look (xc 99) 109 = some (.goto (-102), 3, 0, 0, 0) := by decide +kernel
theorem vca_112 : xe_look (xc 99) 112 = some (.return_, 1, 0, 0, 0) := by decide +kernel
theorem vff_0 : xe_look (xc 100) 0 = some (.iconst (-1), 1, 0, 0, 0) := by decide +kernel
theorem vff_1 : xe_look (xc 100) 1 = some (.istore_n 3, 1, 0, 0, 0) := by decide +kernel
theorem vff_2 : xe_look (xc 100) 2 = some (.iconst 0, 1, 0, 0, 0) := by decide +kernel
theorem vff_3 : xe_look (xc 100) 3 = some (.istore 4, 2, 0, 0, 0) := by decide +kernel
theorem vff_5 : xe_look (xc 100) 5 = some (.iload 4, 2, 0, 0, 0) := by decide +kernel
theorem vff_7 : xe_look (xc 100) 7 = some (.bipush 8, 2, 0, 0, 0) := by decide +kernel
theorem vff_9 : xe_look (xc 100) 9 = some (.if_icmp .ge 46, 3, 0, 0, 0) := by decide +kernel
theorem vff_12 : xe_look (xc 100) 12 = some (.iload_n 1, 1, 0, 0, 0) := by decide +kernel
theorem vff_13 : xe_look (xc 100) 13 = some (.iload 4, 2, 0, 0, 0) := by decide +kernel
theorem vff_15 : xe_look (xc 100) 15 = some (.ishr, 1, 0, 0, 0) := by decide +kernel
theorem vff_16 : xe_look (xc 100) 16 = some (.iconst 1, 1, 0, 0, 0) := by decide +kernel
theorem vff_17 : xe_look (xc 100) 17 = some (.iand, 1, 0, 0, 0) := by decide +kernel
theorem vff_18 : xe_look (xc 100) 18 = some (.ifCond .ne 31, 3, 0, 0, 0) := by decide +kernel
theorem vff_21 : xe_look (xc 100) 21 = some (.aload_n 0, 1, 0, 0, 0) := by decide +kernel
theorem vff_22 : xe_look (xc 100) 22 = some (.iload_n 1, 1, 0, 0, 0) := by decide +kernel
theorem vff_23 : xe_look (xc 100) 23 = some (.iload_n 2, 1, 0, 0, 0) := by decide +kernel
theorem vff_24 : xe_look (xc 100) 24 = some (.iload 4, 2, 0, 0, 0) := by decide +kernel
theorem vff_26 : xe_look (xc 100) 26 = some (.invokevirtual 70, 3, 0, 107, 970) := by decide +kernel
theorem vff_29 : xe_look (xc 100) 29 = some (.istore 5, 2, 0, 0, 0) := by decide +kernel
theorem vff_31 : xe_look (xc 100) 31 = some (.iload_n 3, 1, 0, 0, 0) := by decide +kernel
theorem vff_32 : xe_look (xc 100) 32 = some (.iconst (-1), 1, 0, 0, 0) := by decide +kernel
theorem vff_33 : xe_look (xc 100) 33 = some (.if_icmp .eq 9, 3, 0, 0, 0) := by decide +kernel
theorem vff_36 : xe_look (xc 100) 36 = some (.iload 5, 2, 0, 0, 0) := by decide +kernel
theorem vff_38 : xe_look (xc 100) 38 = some (.iload_n 3, 1, 0, 0, 0) := by decide +kernel
theorem vff_39 : xe_look (xc 100) 39 = some (.if_icmp .ge 8, 3, 0, 0, 0) := by decide +kernel
theorem vff_42 : xe_look (xc 100) 42 = some (.iload 5, 2, 0, 0, 0) := by decide +kernel
theorem vff_44 : xe_look (xc 100) 44 = some (.goto 4, 3, 0, 0, 0) := by decide +kernel
theorem vff_47 : xe_look (xc 100) 47 = some (.iload_n 3, 1, 0, 0, 0) := by decide +kernel
theorem vff_48 : xe_look (xc 100) 48 = some (.istore_n 3, 1, 0, 0, 0) := by decide +kernel
theorem vff_49 : xe_look (xc 100) 49 = some (.iinc 4 1, 3, 0, 0, 0) := by decide +kernel
theorem vff_52 : xe_look (xc 100) 52 = some (.goto (-47), 3, 0, 0, 0) := by decide +kernel
theorem vff_55 : xe_look (xc 100) 55 = some (.iload_n 3, 1, 0, 0, 0) := by decide +kernel
theorem vff_56 : xe_look (xc 100) 56 = some (.iconst 0, 1, 0, 0, 0) := by decide +kernel
theorem vff_57 : xe_look (xc 100) 57 = some (.invokestatic 74, 3, 2, 0, 971) := by decide +kernel
theorem vff_60 : xe_look (xc 100) 60 = some (.ireturn, 1, 0, 0, 0) := by decide +kernel
theorem vnr_0 : xe_look (xc 106) 0 = some (.iconst 0, 1, 0, 0, 0) := by decide +kernel
theorem vnr_1 : xe_look (xc 106) 1 = some (.istore_n 2, 1, 0, 0, 0) := by decide +kernel
theorem vnr_2 : xe_look (xc 106) 2 = some (.iconst 0, 1, 0, 0, 0) := by decide +kernel
theorem vnr_3 : xe_look (xc 106) 3 = some (.istore_n 3, 1, 0, 0, 0) := by decide +kernel
theorem vnr_4 : xe_look (xc 106) 4 = some (.iload_n 3, 1, 0, 0, 0) := by decide +kernel
theorem vnr_5 : xe_look (xc 106) 5 = some (.bipush 8, 2, 0, 0, 0) := by decide +kernel
theorem vnr_7 : xe_look (xc 106) 7 = some (.if_icmp .ge 30, 3, 0, 0, 0) := by decide +kernel
theorem vnr_10 : xe_look (xc 106) 10 = some (.iload_n 2, 1, 0, 0, 0) := by decide +kernel
theorem vnr_11 : xe_look (xc 106) 11 = some (.iload_n 1, 1, 0, 0, 0) := by decide +kernel
theorem vnr_12 : xe_look (xc 106) 12 = some (.iload_n 3, 1, 0, 0, 0) := by decide +kernel
theorem vnr_13 : xe_look (xc 106) 13 = some (.ishr, 1, 0, 0, 0) := by decide +kernel
theorem vnr_14 : xe_look (xc 106) 14 = some (.iconst 1, 1, 0, 0, 0) := by decide +kernel
theorem vnr_15 : xe_look (xc 106) 15 = some (.iand, 1, 0, 0, 0) := by decide +kernel
theorem vnr_16 : xe_look (xc 106) 16 = some (.ifCond .eq 12, 3, 0, 0, 0) := by decide +kernel
theorem vnr_19 : xe_look (xc 106) 19 = some (.aload_n 0, 1, 0, 0, 0) := by decide +kernel
theorem vnr_20 : xe_look (xc 106) 20 = some (.getfield 18, 3, 10, 3, 968) := by decide +kernel
theorem vnr_23 : xe_look (xc 106) 23 = some (.iload_n 3, 1, 0, 0, 0) := by decide +kernel
theorem vnr_24 : xe_look (xc 106) 24 = some (.iaload, 1, 0, 0, 0) := by decide +kernel
theorem vnr_25 : xe_look (xc 106) 25 = some (.goto 4, 3, 0, 0, 0) := by decide +kernel
theorem vnr_28 : xe_look (xc 106) 28 = some (.iconst 0, 1, 0, 0, 0) := by decide +kernel
theorem vnr_29 : xe_look (xc 106) 29 = some (.ior, 1, 0, 0, 0) := by decide +kernel
theorem vnr_30 : xe_look (xc 106) 30 = some (.istore_n 2, 1, 0, 0, 0) := by decide +kernel
theorem vnr_31 : xe_look (xc 106) 31 = some (.iinc 3 1, 3, 0, 0, 0) := by decide +kernel
theorem vnr_34 : xe_look (xc 106) 34 = some (.goto (-30), 3, 0, 0, 0) := by decide +kernel
theorem vnr_37 : xe_look (xc 106) 37 = some (.iconst 0, 1, 0, 0, 0) := by decide +kernel
theorem vnr_38 : xe_look (xc 106) 38 = some (.istore_n 3, 1, 0, 0, 0) := by decide +kernel
theorem vnr_39 : xe_look (xc 106) 39 = some (.iconst 0, 1, 0, 0, 0) := by decide +kernel
theorem vnr_40 : xe_look (xc 106) 40 = some (.istore 4, 2, 0, 0, 0) := by decide +kernel
theorem vnr_42 : xe_look (xc 106) 42 = some (.iload 4, 2, 0, 0, 0) := by decide +kernel
theorem vnr_44 : xe_look (xc 106) 44 = some (.bipush 8, 2, 0, 0, 0) := by decide +kernel
theorem vnr_46 : xe_look (xc 106) 46 = some (.if_icmp .ge 32, 3, 0, 0, 0) := by decide +kernel
theorem vnr_49 : xe_look (xc 106) 49 = some (.iload_n 3, 1, 0, 0, 0) := by decide +kernel
theorem vnr_50 : xe_look (xc 106) 50 = some (.iload_n 2, 1, 0, 0, 0) := by decide +kernel
theorem vnr_51 : xe_look (xc 106) 51 = some (.iload 4, 2, 0, 0, 0) := by decide +kernel
theorem vnr_53 : xe_look (xc 106) 53 = some (.ishr, 1, 0, 0, 0) := by decide +kernel
theorem vnr_54 : xe_look (xc 106) 54 = some (.iconst 1, 1, 0, 0, 0) := by decide +kernel
theorem vnr_55 : xe_look (xc 106) 55 = some (.iand, 1, 0, 0, 0) := by decide +kernel
theorem vnr_56 : xe_look (xc 106) 56 = some (.ifCond .eq 7, 3, 0, 0, 0) := by decide +kernel
theorem vnr_59 : xe_look (xc 106) 59 = some (.iconst 0, 1, 0, 0, 0) := by decide +kernel
theorem vnr_60 : xe_look (xc 106) 60 = some (.goto 10, 3, 0, 0, 0) := by decide +kernel
theorem vnr_63 : xe_look (xc 106) 63 = some (.aload_n 0, 1, 0, 0, 0) := by decide +kernel
theorem vnr_64 : xe_look (xc 106) 64 = some (.getfield 9, 3, 10, 1, 964) := by decide +kernel
theorem vnr_67 : xe_look (xc 106) 67 = some (.iload 4, 2, 0, 0, 0) := by decide +kernel
theorem vnr_69 : xe_look (xc 106) 69 = some (.iaload, 1, 0, 0, 0) := by decide +kernel
theorem vnr_70 : xe_look (xc 106) 70 = some (.iadd, 1, 0, 0, 0) := by decide +kernel
theorem vnr_71 : xe_look (xc 106) 71 = some (.istore_n 3, 1, 0, 0, 0) := by decide +kernel
theorem vnr_72 : xe_look (xc 106) 72 = some (.iinc 4 1, 3, 0, 0, 0) := by decide +kernel
theorem vnr_75 : xe_look (xc 106) 75 = some (.goto (-33), 3, 0, 0, 0) := by decide +kernel
theorem vnr_78 : xe_look (xc 106) 78 = some (.iload_n 3, 1, 0, 0, 0) := by decide +kernel
theorem vnr_79 : xe_look (xc 106) 79 = some (.ireturn, 1, 0, 0, 0) := by decide +kernel
theorem vsb_0 : xe_look (xc 107) 0 = some (.iload_n 2, 1, 0, 0, 0) := by decide +kernel
theorem vsb_1 : xe_look (xc 107) 1 = some (.iload_n 3, 1, 0, 0, 0) := by decide +kernel
theorem vsb_2 : xe_look (xc 107) 2 = some (.invokestatic 79, 3, 1, 159, 9) := by decide +kernel
theorem vsb_5 : xe_look (xc 107) 5 = some (.istore 4, 2, 0, 0, 0) := by decide +kernel
theorem vsb_7 : xe_look (xc 107) 7 = some (.aload_n 0, 1, 0, 0, 0) := by decide +kernel
theorem vsb_8 : xe_look (xc 107) 8 = some (.getfield 21, 3, 10, 4, 973) := by decide +kernel
theorem vsb_11 : xe_look (xc 107) 11 = some (.iload_n 1, 1, 0, 0, 0) := by decide +kernel
theorem vsb_12 : xe_look (xc 107) 12 = some (.iaload, 1, 0, 0, 0) := by decide +kernel
theorem vsb_13 : xe_look (xc 107) 13 = some (.aload_n 0, 1, 0, 0, 0) := by decide +kernel
theorem vsb_14 : xe_look (xc 107) 14 = some (.getfield 15, 3, 10, 2, 966) := by decide +kernel
theorem vsb_17 : xe_look (xc 107) 17 = some (.iload 4, 2, 0, 0, 0) := by decide +kernel
theorem vsb_19 : xe_look (xc 107) 19 = some (.iaload, 1, 0, 0, 0) := by decide +kernel
theorem vsb_20 : xe_look (xc 107) 20 = some (.imul, 1, 0, 0, 0) := by decide +kernel
theorem vsb_21 : xe_look (xc 107) 21 = some (.aload_n 0, 1, 0, 0, 0) := by decide +kernel
theorem vsb_22 : xe_look (xc 107) 22 = some (.getfield 24, 3, 10, 5, 975) := by decide +kernel
theorem vsb_25 : xe_look (xc 107) 25 = some (.iload_n 1, 1, 0, 0, 0) := by decide +kernel
theorem vsb_26 : xe_look (xc 107) 26 = some (.iconst 1, 1, 0, 0, 0) := by decide +kernel
theorem vsb_27 : xe_look (xc 107) 27 = some (.iload_n 3, 1, 0, 0, 0) := by decide +kernel
theorem vsb_28 : xe_look (xc 107) 28 = some (.ishl, 1, 0, 0, 0) := by decide +kernel
theorem vsb_29 : xe_look (xc 107) 29 = some (.ior, 1, 0, 0, 0) := by decide +kernel
theorem vsb_30 : xe_look (xc 107) 30 = some (.bipush 8, 2, 0, 0, 0) := by decide +kernel
theorem vsb_32 : xe_look (xc 107) 32 = some (.imul, 1, 0, 0, 0) := by decide +kernel
theorem vsb_33 : xe_look (xc 107) 33 = some (.iload_n 3, 1, 0, 0, 0) := by decide +kernel
theorem vsb_34 : xe_look (xc 107) 34 = some (.iadd, 1, 0, 0, 0) := by decide +kernel
theorem vsb_35 : xe_look (xc 107) 35 = some (.iaload, 1, 0, 0, 0) := by decide +kernel
theorem vsb_36 : xe_look (xc 107) 36 = some (.iadd, 1, 0, 0, 0) := by decide +kernel
theorem vsb_37 : xe_look (xc 107) 37 = some (.ireturn, 1, 0, 0, 0) := by decide +kernel
def wA9 : Nat := cW 156 ||| cW 165 ||| 2 ^ (cn 177 + 0) ||| 2 ^ cn 178 ||| 2 ^ cn 179 ||| 2 ^ cn 180
theorem wA_s {K : Nat} (hK : lK K) : cW K &&& wA9 = cW K ∧ ((cW K).testBit (cn 177 + 0) = false ∧ (cW K).testBit (cn 178) = false ∧ (cW K).testBit (cn 179) = false ∧ (cW K).testBit (cn 180) = false) := by rcases hK with rfl | rfl <;> decide +kernel
theorem wA_m : (∀ m, m < 32 → wA9.testBit (cn (4 + 2 * m) + 3) = false ∧ wA9.testBit (cn (4 + 2 * m) + 4) = false ∧ wA9.testBit (cn (4 + 2 * m) + 5) = false ∧ wA9.testBit (cn (4 + 2 * m) + 6) = false ∧ wA9.testBit (cn (5 + 2 * m)) = false) ∧ (∀ m, m < 32 → wA9.testBit (cn (4 + 2 * m) + 8) = false) ∧ wA9.testBit (cn 164 + 0) = false := by decide +kernel
theorem wA_k {K : Nat} (hK : lK K) : (wA9.testBit (cn K + 0) = false ∧ wA9.testBit (cn (K + 1)) = false ∧ wA9.testBit (cn (K + 2)) = false ∧ wA9.testBit (cn (K + 3)) = false ∧ wA9.testBit (cn (K + 4)) = false ∧ wA9.testBit (cn (K + 5)) = false ∧ wA9.testBit (cn (K + 6)) = false) := by rcases hK with rfl | rfl <;> decide +kernel
/-- a call that writes nothing of what is followed -/
theorem S_cl {ks : List (Nat × Nat)} {as : List Nat} {W V : Nat} {g0 g g2 : pH} {vs : List Int} {cs : List (Nat → Int)} (hV : V &&& W = V) (h1 : ∀ i, i < ks.length → V.testBit (cn (ks.getD i (0, 0)).1 + (ks.getD i (0, 0)).2) = false) (h2 : ∀ i, i < as.length → V.testBit (cn (as.getD i 0)) = false) (hS : sE ks as W g0 g vs cs) (hJ : J_ V g g2) : sE ks as W g0 g2 vs cs := ⟨J_up hV hS.1 hJ, fun i hi => (cF_M hJ.2 (h1 i hi)).trans (hS.2.1 i hi), fun i hi => (fA_M hJ.2 (h2 i hi)).trans (hS.2.2 i hi)⟩
theorem S_ca {W V : Nat} {g0 g g2 : pH} {v : Int} {u1 u2 u3 : Nat → Int} (hV : V &&& W = V) (h : V.testBit (cn 177 + 0) = false ∧ V.testBit (cn 178) = false ∧ V.testBit (cn 179) = false ∧ V.testBit (cn 180) = false) (hS : sE [(177, 0)] [178, 179, 180] W g0 g [v] [u1, u2, u3]) (hJ : J_ V g g2) : sE [(177, 0)] [178, 179, 180] W g0 g2 [v] [u1, u2, u3] := S_cl hV (fun i hi => by
  have hi : i < 1 := hi
  rw [show i = 0 by omega]
  exact h.1) (fun i hi => by
  have hi : i < 3 := hi
  rcases (show i = 0 ∨ i = 1 ∨ i = 2 by omega) with rfl | rfl | rfl
  · exact h.2.1
  · exact h.2.2.1
  · exact h.2.2.2) hS hJ
theorem sdA_f {m : Nat} {g g1 : pH} {ki ma ta wo : Int} (hm : m < 32) (hM : f_M wA9 g g1) (h : sdC g m ki ma ta wo) : sdC g1 m ki ma ta wo := sdC_f hM (wA_m.1 m hm) h
theorem yleo_164 : eL[164]? = some (0, 2) := by decide +kernel
theorem yleo_177 : eL[177]? = some (0, 10) := by decide +kernel
theorem ylgu_178 : eG (cn 178) = (0, 999, []) := by decide +kernel
theorem ylgu_179 : eG (cn 179) = (0, 999, []) := by decide +kernel
theorem ylgu_180 : eG (cn 180) = (0, 255, []) := by decide +kernel
theorem ylgy_177_0 : eG (cn 177 + 0) = ((-2147483648), 2147483647, []) := by decide +kernel
theorem ylch_177_1 : (eG (cn 177 + 1)).2.2 = [179] := by decide +kernel
theorem ylcq_177_1 {d i : Nat} {lv : List (Nat × pv)} {r : List pv} {g : pH} (hG : g_I eG g) : px_push eL d none (.getfield i) 10 1 lv (pvR 177 :: r) g = some (pvR 178 :: r) := pget yleo_177 (gI_r (r := 178) hG yleo_177 (Nat.le_of_ble_eq_true rfl) (y := 1) rfl ylch_177_1)
theorem ylch_177_2 : (eG (cn 177 + 2)).2.2 = [180] := by decide +kernel
theorem ylcq_177_2 {d i : Nat} {lv : List (Nat × pv)} {r : List pv} {g : pH} (hG : g_I eG g) : px_push eL d none (.getfield i) 10 2 lv (pvR 177 :: r) g = some (pvR 179 :: r) := pget yleo_177 (gI_r (r := 179) hG yleo_177 (Nat.le_of_ble_eq_true rfl) (y := 2) rfl ylch_177_2)
theorem ylch_177_3 : (eG (cn 177 + 3)).2.2 = [181] := by decide +kernel
theorem ylcq_177_3 {d i : Nat} {lv : List (Nat × pv)} {r : List pv} {g : pH} (hG : g_I eG g) : px_push eL d none (.getfield i) 10 3 lv (pvR 177 :: r) g = some (pvR 180 :: r) := pget yleo_177 (gI_r (r := 180) hG yleo_177 (Nat.le_of_ble_eq_true rfl) (y := 3) rfl ylch_177_3)
theorem ylch_177_4 : (eG (cn 177 + 4)).2.2 = [182] := by decide +kernel
theorem ylcq_177_4 {d i : Nat} {lv : List (Nat × pv)} {r : List pv} {g : pH} (hG : g_I eG g) : px_push eL d none (.getfield i) 10 4 lv (pvR 177 :: r) g = some (pvR 181 :: r) := pget yleo_177 (gI_r (r := 181) hG yleo_177 (Nat.le_of_ble_eq_true rfl) (y := 4) rfl ylch_177_4)
theorem ylch_177_5 : (eG (cn 177 + 5)).2.2 = [183] := by decide +kernel
theorem ylcq_177_5 {d i : Nat} {lv : List (Nat × pv)} {r : List pv} {g : pH} (hG : g_I eG g) : px_push eL d none (.getfield i) 10 5 lv (pvR 177 :: r) g = some (pvR 182 :: r) := pget yleo_177 (gI_r (r := 182) hG yleo_177 (Nat.le_of_ble_eq_true rfl) (y := 5) rfl ylch_177_5)
theorem ylez_178 : eL[178]? = some (1, 8) := by decide +kernel
theorem ylez_179 : eL[179]? = some (1, 8) := by decide +kernel
theorem ylez_180 : eL[180]? = some (1, 8) := by decide +kernel
theorem ylez_181 : eL[181]? = some (1, 256) := by decide +kernel
theorem ylez_182 : eL[182]? = some (1, 2048) := by decide +kernel
theorem wt_wA9_177_0 : wA9.testBit (cn 177 + 0) = true := by decide +kernel
theorem wu_wA9_178 : wA9.testBit (cn 178) = true := by decide +kernel
theorem wu_wA9_179 : wA9.testBit (cn 179) = true := by decide +kernel
theorem wu_wA9_180 : wA9.testBit (cn 180) = true := by decide +kernel
theorem vca_in {m : Nat} (hm : m < 32) {d : Nat} (hd : 1 ≤ d) {g0 : pH} {pic : tC} (h8 : cF g0 (4 + 2 * m) 8 = alB pic 8) {k : Nat} (hk : k < 8) {v0 : Int} {u1 u2 u0 : Nat → Int} {P : Option pv × pH → Prop} (hP : ∀ (g : pH) (u3 : Nat → Int) (lv : List (Nat × pv)), sE [(177, 0)] [178, 179, 180] wA9 g0 g [v0] [u1, u2, u3] → u3 k = ((rB (fun u => alN pic (cpW u k)) 8 : Nat) : Int) → (∀ j, j ≠ k → u3 j = u0 j) → px_lg lv 0 = some (pvR 177) → px_lg lv 1 = some (pvR (4 + 2 * m)) → px_lg lv 2 = some (pvR 164) → px_lg lv 3 = some (oI (k : Int)) → t_X d 99 106 lv [] g P) : ∀ (r f : Nat) (g : pH) (u3 : Nat → Int) (lv : List (Nat × pv)), 8 - f ≤ r → f ≤ 8 → sE [(177, 0)] [178, 179, 180] wA9 g0 g [v0] [u1, u2, u3] → u3 k = ((rB (fun u => alN pic (cpW u k)) f : Nat) : Int) → (∀ j, j ≠ k → u3 j = u0 j) → px_lg lv 0 = some (pvR 177) → px_lg lv 1 = some (pvR (4 + 2 * m)) → px_lg lv 2 = some (pvR 164) → px_lg lv 3 = some (oI (k : Int)) → px_lg lv 4 = some (oI (f : Int)) → t_X d 99 63 lv [] g P := by
  intro r
  induction r with
  | zero =>
    intro f g u3 lv hr hf2 hS hc ho l0 l1 l2 l3 l4
    refine t_0 vca_63 rfl (ld_i l4) ?_
    refine t_0 vca_65 rfl (pq_b (by decide)) ?_
    refine tb_ge vca_67 (by decide) ⟨by omega, by omega⟩ ⟨by omega, by omega⟩ (fun c1 => ?_) (fun c1 => absurd c1 (by omega))
    show t_X d 99 106 lv [] g P
    obtain rfl : f = 8 := by omega
    exact hP g u3 _ hS hc ho l0 l1 l2 l3
  | succ r ih =>
    intro f g u3 lv hr hf2 hS hc ho l0 l1 l2 l3 l4
    by_cases hf : f < 8
    · have bf0 : rB (fun u => alN pic (cpW u k)) f < 2 ^ 8 := Nat.lt_of_lt_of_le (rB_l f) (Nat.pow_le_pow_right (by decide) (by omega))
      have bp0 : 2 ^ f < 2 ^ 8 := Nat.pow_lt_pow_right (by decide) hf
      refine t_0 vca_63 rfl (ld_i l4) ?_
      refine t_0 vca_65 rfl (pq_b (by decide)) ?_
      refine tb_ge vca_67 (by decide) ⟨by omega, by omega⟩ ⟨by omega, by omega⟩ (fun c1 => absurd c1 (by omega)) (fun c1 => ?_)
      show t_X d 99 70 lv [] g P
      refine t_0 vca_70 rfl (ld_a l0) ?_
      refine t_0 vca_71 rfl (ylcq_177_3 (S_J hS).1) ?_
      show t_X d 99 74 lv [pvR 180] g P
      refine t_0 vca_74 rfl (ld_i l3) ?_
      refine t_0 vca_75 rfl rfl ?_
      refine t_0 vca_76 rfl (pq_iw ylez_180 rfl ⟨by omega, by omega⟩ ((congrFun (show fA g 180 = u3 from S_a hS 2 (Nat.le_of_ble_eq_true rfl)) k).trans hc)) ?_
      show t_X d 99 77 lv [oI (((rB (fun u => alN pic (cpW u k)) f : Nat) : Int)), oI ((k : Int)), pvR 180] g P
      refine t_0 vca_77 rfl (ld_a l1) ?_
      refine t_0 vca_78 rfl (ld_i l4) ?_
      refine t_0 vca_80 rfl (ld_i l3) ?_
      refine t_3 vca_81 rfl (ar := ([oI ((f : Int)), oI ((k : Int))], [pvR (4 + 2 * m), oI (((rB (fun u => alN pic (cpW u k)) f : Nat) : Int)), oI ((k : Int)), pvR 180])) (pcal_s ⟨Or.inr rfl, rfl, Nat.le_of_ble_eq_true rfl⟩) ⟨by omega, Nat.le_of_ble_eq_true rfl, Nat.le_of_ble_eq_true rfl, rfl⟩ ?_
      refine vwt_run hf hk ?_ rfl rfl
      show t_X d 99 84 lv [oI (((cpW f k : Nat) : Int)), pvR (4 + 2 * m), oI (((rB (fun u => alN pic (cpW u k)) f : Nat) : Int)), oI ((k : Int)), pvR 180] g P
      refine t_3 vca_84 rfl (ar := ([pvR (4 + 2 * m), oI (((cpW f k : Nat) : Int))], [oI (((rB (fun u => alN pic (cpW u k)) f : Nat) : Int)), oI ((k : Int)), pvR 180])) (pcal_w (as := [oI (((cpW f k : Nat) : Int))]) rfl rfl rfl (el_s4 hm)) ⟨by omega, Nat.le_of_ble_eq_true rfl, Nat.le_of_ble_eq_true rfl, rfl⟩ ?_
      refine vir_run (pic := pic) hm (cpW_l f hf k hk) ((cF_M (S_J hS).2 (wA_m.2.1 m hm)).trans h8) (fun q0 => ?_) (fun q0 => ?_) rfl rfl
      · show t_X d 99 87 lv [oI 1, oI (((rB (fun u => alN pic (cpW u k)) f : Nat) : Int)), oI ((k : Int)), pvR 180] g P
        refine tz_eq vca_87 (by decide) ⟨by omega, by omega⟩ (fun c2 => absurd c2 (by omega)) (fun c2 => ?_)
        show t_X d 99 90 lv [oI (((rB (fun u => alN pic (cpW u k)) f : Nat) : Int)), oI ((k : Int)), pvR 180] g P
        refine t_0 vca_90 rfl rfl ?_
        refine t_0 vca_91 rfl (ld_i l4) ?_
        refine t_0 vca_93 rfl rfl ?_
        refine t_1 vca_94 rfl (pb_goto (pc := 94) (by decide)) ?_
        show t_X d 99 98 lv [.inl ((Int32.ofInt (1)) <<< ((Int32.ofInt ((f : Int))) &&& 31)), oI (((rB (fun u => alN pic (cpW u k)) f : Nat) : Int)), oI ((k : Int)), pvR 180] g P
        refine t_0 vca_98 rfl (pq_ho (or_n hf)) ?_
        have b8 : rB (fun u => alN pic (cpW u k)) f ||| 2 ^ f < 256 := Nat.or_lt_two_pow (n := 8) bf0 bp0
        refine ts_a (n := 2) rfl rfl (by decide) vca_99 hS ylez_180 rfl wu_wA9_180 ylgu_180 (by decide) ⟨by omega, by omega⟩ ⟨by omega, by omega⟩ (fun g3 hS3 => ?_)
        replace hS3 : sE [(177, 0)] [178, 179, 180] wA9 g0 g3 [v0] [u1, u2, updI u3 (k : Int).toNat ((rB (fun u => alN pic (cpW u k)) f ||| 2 ^ f : Nat) : Int)] := hS3
        obtain ⟨c180_1, ec180_1⟩ : ∃ z : Nat → Int, z = updI u3 (k : Int).toNat ((rB (fun u => alN pic (cpW u k)) f ||| 2 ^ f : Nat) : Int) := ⟨_, rfl⟩
        rw [← ec180_1] at hS3
        replace hS3 : sE [(177, 0)] [178, 179, 180] wA9 g0 g3 [v0] [u1, u2, c180_1] := hS3
        have fc180_1 : c180_1 k = ((rB (fun u => alN pic (cpW u k)) f ||| 2 ^ f : Nat) : Int) := by rw [ec180_1]; exact if_pos rfl
        have nc180_1 : ∀ j, j ≠ k → c180_1 j = u3 j := fun j hj => by rw [ec180_1]; exact if_neg hj
        show t_X d 99 100 lv [] g3 P
        refine t_2 vca_100 rfl (w := (px_s1 lv 4 (oI ((f : Int) + 1)), [])) (pq_inc l4 (by decide)) ?_
        replace l0 : px_lg (px_s1 lv 4 (oI ((f : Int) + 1))) 0 = some (pvR 177) := s1_ne (by decide) (fun _ => rfl) l0
        replace l1 : px_lg (px_s1 lv 4 (oI ((f : Int) + 1))) 1 = some (pvR (4 + 2 * m)) := s1_ne (by decide) (fun _ => rfl) l1
        replace l2 : px_lg (px_s1 lv 4 (oI ((f : Int) + 1))) 2 = some (pvR 164) := s1_ne (by decide) (fun _ => rfl) l2
        replace l3 : px_lg (px_s1 lv 4 (oI ((f : Int) + 1))) 3 = some (oI ((k : Int))) := s1_ne (by decide) (fun _ => rfl) l3
        have l4 : px_lg (px_s1 lv 4 (oI ((f : Int) + 1))) 4 = some (oI ((f : Int) + 1)) := s1_eq
        generalize px_s1 lv 4 (oI ((f : Int) + 1)) = lv4 at l0 l1 l2 l3 l4 ⊢
        show t_X d 99 103 lv4 [] g3 P
        refine t_1 vca_103 rfl (pb_goto (pc := 103) (by decide)) ?_
        show t_X d 99 63 lv4 [] g3 P
        exact ih (f + 1) g3 c180_1 _ (by omega) (by omega) hS3 (by rw [rB_y (f := (fun u => alN pic (cpW u k))) q0]; exact fc180_1) (fun j hj => (nc180_1 j hj).trans (ho j hj)) l0 l1 l2 l3 l4
      · show t_X d 99 87 lv [oI 0, oI (((rB (fun u => alN pic (cpW u k)) f : Nat) : Int)), oI ((k : Int)), pvR 180] g P
        refine tz_eq vca_87 (by decide) ⟨by omega, by omega⟩ (fun c5 => ?_) (fun c5 => absurd c5 (by omega))
        show t_X d 99 97 lv [oI (((rB (fun u => alN pic (cpW u k)) f : Nat) : Int)), oI ((k : Int)), pvR 180] g P
        refine t_0 vca_97 rfl rfl ?_
        refine t_0 vca_98 rfl pq_or0 ?_
        have b8 : rB (fun u => alN pic (cpW u k)) f < 256 := bf0
        refine ts_a (n := 2) rfl rfl (by decide) vca_99 hS ylez_180 rfl wu_wA9_180 ylgu_180 (by decide) ⟨by omega, by omega⟩ ⟨by omega, by omega⟩ (fun g6 hS6 => ?_)
        replace hS6 : sE [(177, 0)] [178, 179, 180] wA9 g0 g6 [v0] [u1, u2, updI u3 (k : Int).toNat ((rB (fun u => alN pic (cpW u k)) f : Nat) : Int)] := hS6
        obtain ⟨c180_2, ec180_2⟩ : ∃ z : Nat → Int, z = updI u3 (k : Int).toNat ((rB (fun u => alN pic (cpW u k)) f : Nat) : Int) := ⟨_, rfl⟩
        rw [← ec180_2] at hS6
        replace hS6 : sE [(177, 0)] [178, 179, 180] wA9 g0 g6 [v0] [u1, u2, c180_2] := hS6
        have fc180_2 : c180_2 k = ((rB (fun u => alN pic (cpW u k)) f : Nat) : Int) := by rw [ec180_2]; exact if_pos rfl
        have nc180_2 : ∀ j, j ≠ k → c180_2 j = u3 j := fun j hj => by rw [ec180_2]; exact if_neg hj
        show t_X d 99 100 lv [] g6 P
        refine t_2 vca_100 rfl (w := (px_s1 lv 4 (oI ((f : Int) + 1)), [])) (pq_inc l4 (by decide)) ?_
        replace l0 : px_lg (px_s1 lv 4 (oI ((f : Int) + 1))) 0 = some (pvR 177) := s1_ne (by decide) (fun _ => rfl) l0
        replace l1 : px_lg (px_s1 lv 4 (oI ((f : Int) + 1))) 1 = some (pvR (4 + 2 * m)) := s1_ne (by decide) (fun _ => rfl) l1
        replace l2 : px_lg (px_s1 lv 4 (oI ((f : Int) + 1))) 2 = some (pvR 164) := s1_ne (by decide) (fun _ => rfl) l2
        replace l3 : px_lg (px_s1 lv 4 (oI ((f : Int) + 1))) 3 = some (oI ((k : Int))) := s1_ne (by decide) (fun _ => rfl) l3
        have l4 : px_lg (px_s1 lv 4 (oI ((f : Int) + 1))) 4 = some (oI ((f : Int) + 1)) := s1_eq
        generalize px_s1 lv 4 (oI ((f : Int) + 1)) = lv7 at l0 l1 l2 l3 l4 ⊢
        show t_X d 99 103 lv7 [] g6 P
        refine t_1 vca_103 rfl (pb_goto (pc := 103) (by decide)) ?_
        show t_X d 99 63 lv7 [] g6 P
        exact ih (f + 1) g6 c180_2 _ (by omega) (by omega) hS6 (by rw [rB_f (f := (fun u => alN pic (cpW u k))) q0]; exact fc180_2) (fun j hj => (nc180_2 j hj).trans (ho j hj)) l0 l1 l2 l3 l4
    · skip
      refine t_0 vca_63 rfl (ld_i l4) ?_
      refine t_0 vca_65 rfl (pq_b (by decide)) ?_
      refine tb_ge vca_67 (by decide) ⟨by omega, by omega⟩ ⟨by omega, by omega⟩ (fun c1 => ?_) (fun c1 => absurd c1 (by omega))
      show t_X d 99 106 lv [] g P
      obtain rfl : f = 8 := by omega
      exact hP g u3 _ hS hc ho l0 l1 l2 l3
set_option maxHeartbeats 2000000 in
theorem vca_loop {K : Nat} (hK : lK K) {m : Nat} (hm : m < 32) {ki ma ta wo : Int} {k1 c : Int} {o v le st co en : tC} {d : Nat} (hd : 7 ≤ d) {g0 : pH} (hs : sdC g0 m ki ma ta wo) (r0 : g0.2.2.1 164 0 = some K) (hL : rLc g0 K k1 c o v le st co en) {pic : tC} (h8 : cF g0 (4 + 2 * m) 8 = alB pic 8) {h tk : Nat → Int} (eh : h = (fun w : Nat => aV o v (qF m ki ma ta wo w) le st co en c 119 99)) (et : tk = (fun w : Nat => aV o v (qF m ki ma ta wo w) le st co en c 116 99)) {P : Option pv × pH → Prop} (hP : ∀ (g : pH) (u1 u2 u3 : Nat → Int), sE [(177, 0)] [178, 179, 180] wA9 g0 g [oS (fun _ => true) h 8] [u1, u2, u3] → (∀ j, j < 8 → u1 j = h j) → (∀ j, j < 8 → u2 j = tk j) → (∀ j, j < 8 → u3 j = ((rB (fun u => alN pic (cpW u j)) 8 : Nat) : Int)) → P (none, g)) : ∀ (r k : Nat) (g : pH) (u1 u2 u3 : Nat → Int) (lv : List (Nat × pv)), 8 - k ≤ r → k ≤ 8 → sE [(177, 0)] [178, 179, 180] wA9 g0 g [oS (fun _ => true) h k] [u1, u2, u3] → (∀ j, j < k → u1 j = h j) → (∀ j, j < k → u2 j = tk j) → (∀ j, j < k → u3 j = ((rB (fun u => alN pic (cpW u j)) 8 : Nat) : Int)) → px_lg lv 0 = some (pvR 177) → px_lg lv 1 = some (pvR (4 + 2 * m)) → px_lg lv 2 = some (pvR 164) → px_lg lv 3 = some (oI (k : Int)) → t_X d 99 7 lv [] g P := by
  have ha : ∀ k, 0 ≤ h k ∧ h k ≤ 99 := fun k => by rw [eh]; exact aV_b (by decide)
  have hb : ∀ k, 0 ≤ tk k ∧ tk k ≤ 99 := fun k => by rw [et]; exact aV_b (by decide)
  intro r
  induction r with
  | zero =>
    intro k g u1 u2 u3 lv hr hk2 hS h1 h2 h3 l0 l1 l2 l3
    refine t_0 vca_7 rfl (ld_i l3) ?_
    refine t_0 vca_8 rfl (pq_b (by decide)) ?_
    refine tb_ge vca_10 (by decide) ⟨by omega, by omega⟩ ⟨by omega, by omega⟩ (fun c1 => ?_) (fun c1 => absurd c1 (by omega))
    show t_X d 99 112 lv [] g P
    refine t_5 vca_112 rfl rfl ?_
    obtain rfl : k = 8 := by omega
    exact hP g u1 u2 u3 hS h1 h2 h3
  | succ r ih =>
    intro k g u1 u2 u3 lv hr hk2 hS h1 h2 h3 l0 l1 l2 l3
    have sb := oS_b (b := fun _ => true) (by decide) ha k
    have ak := ha k
    have bk := hb k
    by_cases hk : k < 8
    · skip
      refine t_0 vca_7 rfl (ld_i l3) ?_
      refine t_0 vca_8 rfl (pq_b (by decide)) ?_
      refine tb_ge vca_10 (by decide) ⟨by omega, by omega⟩ ⟨by omega, by omega⟩ (fun c1 => absurd c1 (by omega)) (fun c1 => ?_)
      show t_X d 99 13 lv [] g P
      refine t_0 vca_13 rfl (ld_a l0) ?_
      refine t_0 vca_14 rfl (ylcq_177_1 (S_J hS).1) ?_
      show t_X d 99 17 lv [pvR 178] g P
      refine t_0 vca_17 rfl (ld_i l3) ?_
      refine t_0 vca_18 rfl (ld_a l2) ?_
      refine t_0 vca_19 rfl (ld_a l1) ?_
      refine t_0 vca_20 rfl (ld_i l3) ?_
      refine t_3 vca_21 rfl (ar := ([pvR 164, pvR (4 + 2 * m), oI ((k : Int))], [oI ((k : Int)), pvR 178])) (pcal_w (as := [oI ((k : Int)), pvR (4 + 2 * m)]) rfl rfl rfl yleo_164) ⟨by omega, Nat.le_of_ble_eq_true rfl, Nat.le_of_ble_eq_true rfl, rfl⟩ ?_
      have M2 := (S_J hS).2
      refine vog_run hK hm hk (by omega) (S_J hS).1 (sdA_f hm M2 hs) (((M2.1 164 0 wA_m.2.2).2.2).trans r0) (rLc_f M2 (wA_k hK) hL) (fun ga2 J2 => ?_) rfl rfl rfl
      have hT2 := S_ca (wA_s hK).1 (wA_s hK).2 hS J2
      rw [show aV o v (qF m ki ma ta wo k) le st co en c 119 99 = h k from by rw [eh]]
      replace hT2 : sE [(177, 0)] [178, 179, 180] wA9 g0 ga2 [oS (fun _ => true) h k] [u1, u2, u3] := hT2
      show t_X d 99 24 lv [oI (h k), oI ((k : Int)), pvR 178] ga2 P
      refine ts_a (n := 0) rfl rfl (by decide) vca_24 hT2 ylez_178 rfl wu_wA9_178 ylgu_178 (by decide) ⟨by omega, by omega⟩ ⟨by omega, by omega⟩ (fun g3 hS3 => ?_)
      replace hS3 : sE [(177, 0)] [178, 179, 180] wA9 g0 g3 [oS (fun _ => true) h k] [updI u1 (k : Int).toNat (h k), u2, u3] := hS3
      obtain ⟨c178_3, ec178_3⟩ : ∃ z : Nat → Int, z = updI u1 (k : Int).toNat (h k) := ⟨_, rfl⟩
      rw [← ec178_3] at hS3
      replace hS3 : sE [(177, 0)] [178, 179, 180] wA9 g0 g3 [oS (fun _ => true) h k] [c178_3, u2, u3] := hS3
      have fc178_3 : c178_3 k = h k := by rw [ec178_3]; exact if_pos rfl
      have nc178_3 : ∀ j, j ≠ k → c178_3 j = u1 j := fun j hj => by rw [ec178_3]; exact if_neg hj
      show t_X d 99 25 lv [] g3 P
      refine t_0 vca_25 rfl (ld_a l0) ?_
      refine t_0 vca_26 rfl rfl ?_
      refine t_0 vca_27 rfl (pq_cv yleo_177 rfl (show cF g3 177 0 = oS (fun _ => true) h k from S_f hS3 0 (Nat.le_of_ble_eq_true rfl))) ?_
      show t_X d 99 30 lv [oI (oS (fun _ => true) h k), pvR 177] g3 P
      refine t_0 vca_30 rfl (ld_a l0) ?_
      refine t_0 vca_31 rfl (ylcq_177_1 (S_J hS3).1) ?_
      show t_X d 99 34 lv [pvR 178, oI (oS (fun _ => true) h k), pvR 177] g3 P
      refine t_0 vca_34 rfl (ld_i l3) ?_
      refine t_0 vca_35 rfl (pq_iw ylez_178 rfl ⟨by omega, by omega⟩ ((congrFun (show fA g3 178 = c178_3 from S_a hS3 0 (Nat.le_of_ble_eq_true rfl)) k).trans fc178_3)) ?_
      show t_X d 99 36 lv [oI (h k), oI (oS (fun _ => true) h k), pvR 177] g3 P
      refine t_0 vca_36 rfl pq_add ?_
      refine ts_f (n := 0) rfl rfl (by decide) vca_37 rfl yleo_177 hS3 wt_wA9_177_0 ylgy_177_0 (by decide) ⟨by omega, by omega⟩ (fun g4 hS4 => ?_)
      replace hS4 : sE [(177, 0)] [178, 179, 180] wA9 g0 g4 [(oS (fun _ => true) h k) + (h k)] [c178_3, u2, u3] := hS4
      show t_X d 99 40 lv [] g4 P
      refine t_0 vca_40 rfl (ld_a l0) ?_
      refine t_0 vca_41 rfl (ylcq_177_2 (S_J hS4).1) ?_
      show t_X d 99 44 lv [pvR 179] g4 P
      refine t_0 vca_44 rfl (ld_i l3) ?_
      refine t_0 vca_45 rfl (ld_a l2) ?_
      refine t_0 vca_46 rfl (ld_a l1) ?_
      refine t_0 vca_47 rfl (ld_i l3) ?_
      refine t_0 vca_48 rfl rfl ?_
      refine t_3 vca_49 rfl (ar := ([pvR 164, pvR (4 + 2 * m), oI ((k : Int)), oI 0], [oI ((k : Int)), pvR 179])) (pcal_w (as := [oI 0, oI ((k : Int)), pvR (4 + 2 * m)]) rfl rfl rfl yleo_164) ⟨by omega, Nat.le_of_ble_eq_true rfl, Nat.le_of_ble_eq_true rfl, rfl⟩ ?_
      have M5 := (S_J hS4).2
      refine vtu_run hK hm hk (by omega) (S_J hS4).1 (sdA_f hm M5 hs) (((M5.1 164 0 wA_m.2.2).2.2).trans r0) (rLc_f M5 (wA_k hK) hL) (fun ga5 J5 => ?_) rfl rfl rfl rfl
      have hT5 := S_ca (wA_s hK).1 (wA_s hK).2 hS4 J5
      rw [show aV o v (qF m ki ma ta wo k) le st co en c 116 99 = tk k from by rw [et]]
      replace hT5 : sE [(177, 0)] [178, 179, 180] wA9 g0 ga5 [(oS (fun _ => true) h k) + (h k)] [c178_3, u2, u3] := hT5
      show t_X d 99 52 lv [oI (tk k), oI ((k : Int)), pvR 179] ga5 P
      refine ts_a (n := 1) rfl rfl (by decide) vca_52 hT5 ylez_179 rfl wu_wA9_179 ylgu_179 (by decide) ⟨by omega, by omega⟩ ⟨by omega, by omega⟩ (fun g6 hS6 => ?_)
      replace hS6 : sE [(177, 0)] [178, 179, 180] wA9 g0 g6 [(oS (fun _ => true) h k) + (h k)] [c178_3, updI u2 (k : Int).toNat (tk k), u3] := hS6
      obtain ⟨c179_4, ec179_4⟩ : ∃ z : Nat → Int, z = updI u2 (k : Int).toNat (tk k) := ⟨_, rfl⟩
      rw [← ec179_4] at hS6
      replace hS6 : sE [(177, 0)] [178, 179, 180] wA9 g0 g6 [(oS (fun _ => true) h k) + (h k)] [c178_3, c179_4, u3] := hS6
      have fc179_4 : c179_4 k = tk k := by rw [ec179_4]; exact if_pos rfl
      have nc179_4 : ∀ j, j ≠ k → c179_4 j = u2 j := fun j hj => by rw [ec179_4]; exact if_neg hj
      show t_X d 99 53 lv [] g6 P
      refine t_0 vca_53 rfl (ld_a l0) ?_
      refine t_0 vca_54 rfl (ylcq_177_3 (S_J hS6).1) ?_
      show t_X d 99 57 lv [pvR 180] g6 P
      refine t_0 vca_57 rfl (ld_i l3) ?_
      refine t_0 vca_58 rfl rfl ?_
      refine ts_a (n := 2) rfl rfl (by decide) vca_59 hS6 ylez_180 rfl wu_wA9_180 ylgu_180 (by decide) ⟨by omega, by omega⟩ ⟨by omega, by omega⟩ (fun g7 hS7 => ?_)
      replace hS7 : sE [(177, 0)] [178, 179, 180] wA9 g0 g7 [(oS (fun _ => true) h k) + (h k)] [c178_3, c179_4, updI u3 (k : Int).toNat 0] := hS7
      obtain ⟨c180_5, ec180_5⟩ : ∃ z : Nat → Int, z = updI u3 (k : Int).toNat 0 := ⟨_, rfl⟩
      rw [← ec180_5] at hS7
      replace hS7 : sE [(177, 0)] [178, 179, 180] wA9 g0 g7 [(oS (fun _ => true) h k) + (h k)] [c178_3, c179_4, c180_5] := hS7
      have fc180_5 : c180_5 k = 0 := by rw [ec180_5]; exact if_pos rfl
      have nc180_5 : ∀ j, j ≠ k → c180_5 j = u3 j := fun j hj => by rw [ec180_5]; exact if_neg hj
      show t_X d 99 60 lv [] g7 P
      refine t_0 vca_60 rfl rfl ?_
      refine t_2 vca_61 rfl (w := (px_s1 lv 4 (oI 0), [])) rfl ?_
      replace l0 : px_lg (px_s1 lv 4 (oI 0)) 0 = some (pvR 177) := s1_ne (by decide) (fun _ => rfl) l0
      replace l1 : px_lg (px_s1 lv 4 (oI 0)) 1 = some (pvR (4 + 2 * m)) := s1_ne (by decide) (fun _ => rfl) l1
      replace l2 : px_lg (px_s1 lv 4 (oI 0)) 2 = some (pvR 164) := s1_ne (by decide) (fun _ => rfl) l2
      replace l3 : px_lg (px_s1 lv 4 (oI 0)) 3 = some (oI ((k : Int))) := s1_ne (by decide) (fun _ => rfl) l3
      have l4 : px_lg (px_s1 lv 4 (oI 0)) 4 = some (oI 0) := s1_eq
      generalize px_s1 lv 4 (oI 0) = lv8 at l0 l1 l2 l3 l4 ⊢
      show t_X d 99 63 lv8 [] g7 P
      refine vca_in (u0 := u3) hm (by omega) h8 hk (fun g9 c9 lv9 hS9 hc9 ho9 l0 l1 l2 l3 => ?_) 8 0 g7 c180_5 _ (by omega) (by omega) hS7 fc180_5 (fun j hj => nc180_5 j hj) l0 l1 l2 l3 l4
      show t_X d 99 106 lv9 [] g9 P
      refine t_2 vca_106 rfl (w := (px_s1 lv9 3 (oI ((k : Int) + 1)), [])) (pq_inc l3 (by decide)) ?_
      replace l0 : px_lg (px_s1 lv9 3 (oI ((k : Int) + 1))) 0 = some (pvR 177) := s1_ne (by decide) (fun _ => rfl) l0
      replace l1 : px_lg (px_s1 lv9 3 (oI ((k : Int) + 1))) 1 = some (pvR (4 + 2 * m)) := s1_ne (by decide) (fun _ => rfl) l1
      replace l2 : px_lg (px_s1 lv9 3 (oI ((k : Int) + 1))) 2 = some (pvR 164) := s1_ne (by decide) (fun _ => rfl) l2
      have l3 : px_lg (px_s1 lv9 3 (oI ((k : Int) + 1))) 3 = some (oI ((k : Int) + 1)) := s1_eq
      generalize px_s1 lv9 3 (oI ((k : Int) + 1)) = lv9 at l0 l1 l2 l3 ⊢
      show t_X d 99 109 lv9 [] g9 P
      refine t_1 vca_109 rfl (pb_goto (pc := 109) (by decide)) ?_
      show t_X d 99 7 lv9 [] g9 P
      refine ih (k + 1) g9 c178_3 c179_4 c9 _ (by omega) (by omega) (by rw [oS_y (b := fun _ => true) rfl]; exact hS9) (fun j hj => ?_) (fun j hj => ?_) (fun j hj => ?_) l0 l1 l2 l3
      · rcases Nat.lt_or_ge j k with z | z
        · exact (nc178_3 j (by omega)).trans (h1 j z)
        · rw [show j = k by omega]; exact fc178_3
      · rcases Nat.lt_or_ge j k with z | z
        · exact (nc179_4 j (by omega)).trans (h2 j z)
        · rw [show j = k by omega]; exact fc179_4
      · rcases Nat.lt_or_ge j k with z | z
        · exact (ho9 j (by omega)).trans (h3 j z)
        · rw [show j = k by omega]; exact hc9
    · skip
      refine t_0 vca_7 rfl (ld_i l3) ?_
      refine t_0 vca_8 rfl (pq_b (by decide)) ?_
      refine tb_ge vca_10 (by decide) ⟨by omega, by omega⟩ ⟨by omega, by omega⟩ (fun c1 => ?_) (fun c1 => absurd c1 (by omega))
      show t_X d 99 112 lv [] g P
      refine t_5 vca_112 rfl rfl ?_
      obtain rfl : k = 8 := by omega
      exact hP g u1 u2 u3 hS h1 h2 h3
theorem vca_run {K : Nat} (hK : lK K) {m : Nat} (hm : m < 32) {ki ma ta wo : Int} {k1 c : Int} {o v le st co en : tC} {d : Nat} (hd : 7 ≤ d) {g0 : pH} (hs : sdC g0 m ki ma ta wo) (r0 : g0.2.2.1 164 0 = some K) (hL : rLc g0 K k1 c o v le st co en) {pic : tC} (h8 : cF g0 (4 + 2 * m) 8 = alB pic 8) {h tk : Nat → Int} (eh : h = (fun w : Nat => aV o v (qF m ki ma ta wo w) le st co en c 119 99)) (et : tk = (fun w : Nat => aV o v (qF m ki ma ta wo w) le st co en c 116 99)) {P : Option pv × pH → Prop} (hP : ∀ (g : pH) (u1 u2 u3 : Nat → Int), sE [(177, 0)] [178, 179, 180] wA9 g0 g [oS (fun _ => true) h 8] [u1, u2, u3] → (∀ j, j < 8 → u1 j = h j) → (∀ j, j < 8 → u2 j = tk j) → (∀ j, j < 8 → u3 j = ((rB (fun u => alN pic (cpW u j)) 8 : Nat) : Int)) → P (none, g)) (hG : g_I eG g0) {lv : List (Nat × pv)} (l0 : px_lg lv 0 = some (pvR 177)) (l1 : px_lg lv 1 = some (pvR (4 + 2 * m))) (l2 : px_lg lv 2 = some (pvR 164)) : t_X d 99 0 lv [] g0 P := by
  have hS : sE [(177, 0)] [178, 179, 180] wA9 g0 g0 [cF g0 177 0] [fA g0 178, fA g0 179, fA g0 180] := S_0 hG
  refine t_0 vca_0 rfl (ld_a l0) ?_
  refine t_0 vca_1 rfl rfl ?_
  refine ts_f (n := 0) rfl rfl (by decide) vca_2 rfl yleo_177 hS wt_wA9_177_0 ylgy_177_0 (by decide) ⟨by omega, by omega⟩ (fun g1 hS1 => ?_)
  replace hS1 : sE [(177, 0)] [178, 179, 180] wA9 g0 g1 [0] [fA g0 178, fA g0 179, fA g0 180] := hS1
  show t_X d 99 5 lv [] g1 P
  refine t_0 vca_5 rfl rfl ?_
  refine t_2 vca_6 rfl (w := (px_s1 lv 3 (oI 0), [])) rfl ?_
  replace l0 : px_lg (px_s1 lv 3 (oI 0)) 0 = some (pvR 177) := s1_ne (by decide) (fun _ => rfl) l0
  replace l1 : px_lg (px_s1 lv 3 (oI 0)) 1 = some (pvR (4 + 2 * m)) := s1_ne (by decide) (fun _ => rfl) l1
  replace l2 : px_lg (px_s1 lv 3 (oI 0)) 2 = some (pvR 164) := s1_ne (by decide) (fun _ => rfl) l2
  have l3 : px_lg (px_s1 lv 3 (oI 0)) 3 = some (oI 0) := s1_eq
  generalize px_s1 lv 3 (oI 0) = lv2 at l0 l1 l2 l3 ⊢
  show t_X d 99 7 lv2 [] g1 P
  exact vca_loop hK hm hd hs r0 hL h8 eh et hP 8 0 g1 _ _ _ _ (by omega) (by omega) hS1 (fun j hj => absurd hj (Nat.not_lt_zero j)) (fun j hj => absurd hj (Nat.not_lt_zero j)) (fun j hj => absurd hj (Nat.not_lt_zero j)) l0 l1 l2 l3
theorem vnr_a {set : Nat} (hs : set < 256) {d : Nat} {g : pH} (hG : g_I eG g) {h : Nat → Int} {rt : Nat → Bool} (h1 : ∀ j, j < 8 → fA g 178 j = h j) (h3 : ∀ j, j < 8 → fA g 180 j = (((fun v => rB (fun u => rt (cpW u v)) 8) j : Nat) : Int)) {P : Option pv × pH → Prop} (hP : ∀ lv : List (Nat × pv), px_lg lv 0 = some (pvR 177) → px_lg lv 1 = some (oI (set : Int)) → px_lg lv 2 = some (oI ((uR (fun v => rB (fun u => rt (cpW u v)) 8) set 8 : Nat) : Int)) → t_X d 106 37 lv [] g P) : ∀ (r k : Nat) (lv : List (Nat × pv)), 8 - k ≤ r → k ≤ 8 → px_lg lv 0 = some (pvR 177) → px_lg lv 1 = some (oI (set : Int)) → px_lg lv 2 = some (oI ((uR (fun v => rB (fun u => rt (cpW u v)) 8) set k : Nat) : Int)) → px_lg lv 3 = some (oI (k : Int)) → t_X d 106 4 lv [] g P := by
  intro r
  induction r with
  | zero =>
    intro k lv hr hk2 l0 l1 l2 l3
    refine t_0 vnr_4 rfl (ld_i l3) ?_
    refine t_0 vnr_5 rfl (pq_b (by decide)) ?_
    refine tb_ge vnr_7 (by decide) ⟨by omega, by omega⟩ ⟨by omega, by omega⟩ (fun c1 => ?_) (fun c1 => absurd c1 (by omega))
    show t_X d 106 37 lv [] g P
    obtain rfl : k = 8 := by omega
    exact hP _ l0 l1 l2
  | succ r ih =>
    intro k lv hr hk2 l0 l1 l2 l3
    by_cases hk : k < 8
    · cases qb : set.testBit k with
      | true =>
        refine t_0 vnr_4 rfl (ld_i l3) ?_
        refine t_0 vnr_5 rfl (pq_b (by decide)) ?_
        refine tb_ge vnr_7 (by decide) ⟨by omega, by omega⟩ ⟨by omega, by omega⟩ (fun c1 => absurd c1 (by omega)) (fun c1 => ?_)
        show t_X d 106 10 lv [] g P
        refine t_0 vnr_10 rfl (ld_i l2) ?_
        refine t_0 vnr_11 rfl (ld_i l1) ?_
        refine t_0 vnr_12 rfl (ld_i l3) ?_
        refine t_0 vnr_13 rfl rfl ?_
        refine t_0 vnr_14 rfl rfl ?_
        refine t_0 vnr_15 rfl (pq_hb (e := 1) (by rw [bt_n set hs k hk, qb]; first | done | rfl)) ?_
        refine tz_eq vnr_16 (by decide) ⟨by omega, by omega⟩ (fun c2 => absurd c2 (by omega)) (fun c2 => ?_)
        show t_X d 106 19 lv [oI (((uR (fun v => rB (fun u => rt (cpW u v)) 8) set k : Nat) : Int))] g P
        refine t_0 vnr_19 rfl (ld_a l0) ?_
        refine t_0 vnr_20 rfl (ylcq_177_3 hG) ?_
        show t_X d 106 23 lv [pvR 180, oI (((uR (fun v => rB (fun u => rt (cpW u v)) 8) set k : Nat) : Int))] g P
        refine t_0 vnr_23 rfl (ld_i l3) ?_
        refine t_0 vnr_24 rfl (pq_iw ylez_180 rfl ⟨by omega, by omega⟩ (h3 k hk)) ?_
        show t_X d 106 25 lv [oI ((((fun v => rB (fun u => rt (cpW u v)) 8) k : Nat) : Int)), oI (((uR (fun v => rB (fun u => rt (cpW u v)) 8) set k : Nat) : Int))] g P
        refine t_1 vnr_25 rfl (pb_goto (pc := 25) (by decide)) ?_
        show t_X d 106 29 lv [oI ((((fun v => rB (fun u => rt (cpW u v)) 8) k : Nat) : Int)), oI (((uR (fun v => rB (fun u => rt (cpW u v)) 8) set k : Nat) : Int))] g P
        refine t_0 vnr_29 rfl (pq_ho or_g) ?_
        refine t_2 vnr_30 rfl (w := (px_s1 lv 2 (oI (((uR (fun v => rB (fun u => rt (cpW u v)) 8) set k ||| (fun v => rB (fun u => rt (cpW u v)) 8) k : Nat) : Int))), [])) rfl ?_
        replace l0 : px_lg (px_s1 lv 2 (oI (((uR (fun v => rB (fun u => rt (cpW u v)) 8) set k ||| (fun v => rB (fun u => rt (cpW u v)) 8) k : Nat) : Int)))) 0 = some (pvR 177) := s1_ne (by decide) (fun _ => rfl) l0
        replace l1 : px_lg (px_s1 lv 2 (oI (((uR (fun v => rB (fun u => rt (cpW u v)) 8) set k ||| (fun v => rB (fun u => rt (cpW u v)) 8) k : Nat) : Int)))) 1 = some (oI ((set : Int))) := s1_ne (by decide) (fun _ => rfl) l1
        replace l3 : px_lg (px_s1 lv 2 (oI (((uR (fun v => rB (fun u => rt (cpW u v)) 8) set k ||| (fun v => rB (fun u => rt (cpW u v)) 8) k : Nat) : Int)))) 3 = some (oI ((k : Int))) := s1_ne (by decide) (fun _ => rfl) l3
        have l2 : px_lg (px_s1 lv 2 (oI (((uR (fun v => rB (fun u => rt (cpW u v)) 8) set k ||| (fun v => rB (fun u => rt (cpW u v)) 8) k : Nat) : Int)))) 2 = some (oI (((uR (fun v => rB (fun u => rt (cpW u v)) 8) set k ||| (fun v => rB (fun u => rt (cpW u v)) 8) k : Nat) : Int))) := s1_eq
        generalize px_s1 lv 2 (oI (((uR (fun v => rB (fun u => rt (cpW u v)) 8) set k ||| (fun v => rB (fun u => rt (cpW u v)) 8) k : Nat) : Int))) = lv3 at l0 l1 l3 l2 ⊢
        show t_X d 106 31 lv3 [] g P
        refine t_2 vnr_31 rfl (w := (px_s1 lv3 3 (oI ((k : Int) + 1)), [])) (pq_inc l3 (by decide)) ?_
        replace l0 : px_lg (px_s1 lv3 3 (oI ((k : Int) + 1))) 0 = some (pvR 177) := s1_ne (by decide) (fun _ => rfl) l0
        replace l1 : px_lg (px_s1 lv3 3 (oI ((k : Int) + 1))) 1 = some (oI ((set : Int))) := s1_ne (by decide) (fun _ => rfl) l1
        replace l2 : px_lg (px_s1 lv3 3 (oI ((k : Int) + 1))) 2 = some (oI (((uR (fun v => rB (fun u => rt (cpW u v)) 8) set k ||| (fun v => rB (fun u => rt (cpW u v)) 8) k : Nat) : Int))) := s1_ne (by decide) (fun _ => rfl) l2
        have l3 : px_lg (px_s1 lv3 3 (oI ((k : Int) + 1))) 3 = some (oI ((k : Int) + 1)) := s1_eq
        generalize px_s1 lv3 3 (oI ((k : Int) + 1)) = lv4 at l0 l1 l2 l3 ⊢
        show t_X d 106 34 lv4 [] g P
        refine t_1 vnr_34 rfl (pb_goto (pc := 34) (by decide)) ?_
        show t_X d 106 4 lv4 [] g P
        exact ih (k + 1) _ (by omega) (by omega) l0 l1 (by rw [uR_y qb]; exact l2) l3
      | false =>
        refine t_0 vnr_4 rfl (ld_i l3) ?_
        refine t_0 vnr_5 rfl (pq_b (by decide)) ?_
        refine tb_ge vnr_7 (by decide) ⟨by omega, by omega⟩ ⟨by omega, by omega⟩ (fun c1 => absurd c1 (by omega)) (fun c1 => ?_)
        show t_X d 106 10 lv [] g P
        refine t_0 vnr_10 rfl (ld_i l2) ?_
        refine t_0 vnr_11 rfl (ld_i l1) ?_
        refine t_0 vnr_12 rfl (ld_i l3) ?_
        refine t_0 vnr_13 rfl rfl ?_
        refine t_0 vnr_14 rfl rfl ?_
        refine t_0 vnr_15 rfl (pq_hb (e := 0) (by rw [bt_n set hs k hk, qb]; first | done | rfl)) ?_
        refine tz_eq vnr_16 (by decide) ⟨by omega, by omega⟩ (fun c2 => ?_) (fun c2 => absurd c2 (by omega))
        show t_X d 106 28 lv [oI (((uR (fun v => rB (fun u => rt (cpW u v)) 8) set k : Nat) : Int))] g P
        refine t_0 vnr_28 rfl rfl ?_
        refine t_0 vnr_29 rfl pq_or0 ?_
        refine t_2 vnr_30 rfl (w := (px_s1 lv 2 (oI (((uR (fun v => rB (fun u => rt (cpW u v)) 8) set k : Nat) : Int))), [])) rfl ?_
        replace l0 : px_lg (px_s1 lv 2 (oI (((uR (fun v => rB (fun u => rt (cpW u v)) 8) set k : Nat) : Int)))) 0 = some (pvR 177) := s1_ne (by decide) (fun _ => rfl) l0
        replace l1 : px_lg (px_s1 lv 2 (oI (((uR (fun v => rB (fun u => rt (cpW u v)) 8) set k : Nat) : Int)))) 1 = some (oI ((set : Int))) := s1_ne (by decide) (fun _ => rfl) l1
        replace l3 : px_lg (px_s1 lv 2 (oI (((uR (fun v => rB (fun u => rt (cpW u v)) 8) set k : Nat) : Int)))) 3 = some (oI ((k : Int))) := s1_ne (by decide) (fun _ => rfl) l3
        have l2 : px_lg (px_s1 lv 2 (oI (((uR (fun v => rB (fun u => rt (cpW u v)) 8) set k : Nat) : Int)))) 2 = some (oI (((uR (fun v => rB (fun u => rt (cpW u v)) 8) set k : Nat) : Int))) := s1_eq
        generalize px_s1 lv 2 (oI (((uR (fun v => rB (fun u => rt (cpW u v)) 8) set k : Nat) : Int))) = lv3 at l0 l1 l3 l2 ⊢
        show t_X d 106 31 lv3 [] g P
        refine t_2 vnr_31 rfl (w := (px_s1 lv3 3 (oI ((k : Int) + 1)), [])) (pq_inc l3 (by decide)) ?_
        replace l0 : px_lg (px_s1 lv3 3 (oI ((k : Int) + 1))) 0 = some (pvR 177) := s1_ne (by decide) (fun _ => rfl) l0
        replace l1 : px_lg (px_s1 lv3 3 (oI ((k : Int) + 1))) 1 = some (oI ((set : Int))) := s1_ne (by decide) (fun _ => rfl) l1
        replace l2 : px_lg (px_s1 lv3 3 (oI ((k : Int) + 1))) 2 = some (oI (((uR (fun v => rB (fun u => rt (cpW u v)) 8) set k : Nat) : Int))) := s1_ne (by decide) (fun _ => rfl) l2
        have l3 : px_lg (px_s1 lv3 3 (oI ((k : Int) + 1))) 3 = some (oI ((k : Int) + 1)) := s1_eq
        generalize px_s1 lv3 3 (oI ((k : Int) + 1)) = lv4 at l0 l1 l2 l3 ⊢
        show t_X d 106 34 lv4 [] g P
        refine t_1 vnr_34 rfl (pb_goto (pc := 34) (by decide)) ?_
        show t_X d 106 4 lv4 [] g P
        exact ih (k + 1) _ (by omega) (by omega) l0 l1 (by rw [uR_f qb]; exact l2) l3
    · skip
      refine t_0 vnr_4 rfl (ld_i l3) ?_
      refine t_0 vnr_5 rfl (pq_b (by decide)) ?_
      refine tb_ge vnr_7 (by decide) ⟨by omega, by omega⟩ ⟨by omega, by omega⟩ (fun c1 => ?_) (fun c1 => absurd c1 (by omega))
      show t_X d 106 37 lv [] g P
      obtain rfl : k = 8 := by omega
      exact hP _ l0 l1 l2
theorem vnr_b {set : Nat} (hs : set < 256) {d : Nat} {g : pH} (hG : g_I eG g) {h : Nat → Int} {rt : Nat → Bool} (h1 : ∀ j, j < 8 → fA g 178 j = h j) (h3 : ∀ j, j < 8 → fA g 180 j = (((fun v => rB (fun u => rt (cpW u v)) 8) j : Nat) : Int)) {P : Option pv × pH → Prop} (hP : P (some (oI (oO h rt set)), g)) : ∀ (r k : Nat) (lv : List (Nat × pv)), 8 - k ≤ r → k ≤ 8 → px_lg lv 0 = some (pvR 177) → px_lg lv 1 = some (oI (set : Int)) → px_lg lv 2 = some (oI ((uR (fun v => rB (fun u => rt (cpW u v)) 8) set 8 : Nat) : Int)) → px_lg lv 3 = some (oI (oS (fun w => nRt rt set w) h k)) → px_lg lv 4 = some (oI (k : Int)) → t_X d 106 42 lv [] g P := by
  have hU : uR (fun v => rB (fun u => rt (cpW u v)) 8) set 8 < 256 := uR_l (fun k => rB_l 8) 8
  intro r
  induction r with
  | zero =>
    intro k lv hr hk2 l0 l1 l2 l3 l4
    refine t_0 vnr_42 rfl (ld_i l4) ?_
    refine t_0 vnr_44 rfl (pq_b (by decide)) ?_
    refine tb_ge vnr_46 (by decide) ⟨by omega, by omega⟩ ⟨by omega, by omega⟩ (fun c1 => ?_) (fun c1 => absurd c1 (by omega))
    show t_X d 106 78 lv [] g P
    refine t_0 vnr_78 rfl (ld_i l3) ?_
    refine t_5 vnr_79 rfl rfl ?_
    obtain rfl : k = 8 := by omega
    exact hP
  | succ r ih =>
    intro k lv hr hk2 l0 l1 l2 l3 l4
    by_cases hk : k < 8
    · have un := uR_n (rt := rt) (set := set) hk
      cases qb : (uR (fun v => rB (fun u => rt (cpW u v)) 8) set 8).testBit k with
      | true =>
        have qn : nRt rt set k = false := by
          rw [qb] at un
          cases z : nRt rt set k with
          | false => rfl
          | true => rw [z] at un; cases un
        refine t_0 vnr_42 rfl (ld_i l4) ?_
        refine t_0 vnr_44 rfl (pq_b (by decide)) ?_
        refine tb_ge vnr_46 (by decide) ⟨by omega, by omega⟩ ⟨by omega, by omega⟩ (fun c1 => absurd c1 (by omega)) (fun c1 => ?_)
        show t_X d 106 49 lv [] g P
        refine t_0 vnr_49 rfl (ld_i l3) ?_
        refine t_0 vnr_50 rfl (ld_i l2) ?_
        refine t_0 vnr_51 rfl (ld_i l4) ?_
        refine t_0 vnr_53 rfl rfl ?_
        refine t_0 vnr_54 rfl rfl ?_
        refine t_0 vnr_55 rfl (pq_hb (e := 1) (by rw [bt_n _ hU k hk, qb]; first | done | rfl)) ?_
        refine tz_eq vnr_56 (by decide) ⟨by omega, by omega⟩ (fun c2 => absurd c2 (by omega)) (fun c2 => ?_)
        show t_X d 106 59 lv [oI (oS (fun w => nRt rt set w) h k)] g P
        refine t_0 vnr_59 rfl rfl ?_
        refine t_1 vnr_60 rfl (pb_goto (pc := 60) (by decide)) ?_
        show t_X d 106 70 lv [oI 0, oI (oS (fun w => nRt rt set w) h k)] g P
        refine t_0 vnr_70 rfl pq_add ?_
        refine t_2 vnr_71 rfl (w := (px_s1 lv 3 (oI ((oS (fun w => nRt rt set w) h k) + 0)), [])) rfl ?_
        replace l0 : px_lg (px_s1 lv 3 (oI ((oS (fun w => nRt rt set w) h k) + 0))) 0 = some (pvR 177) := s1_ne (by decide) (fun _ => rfl) l0
        replace l1 : px_lg (px_s1 lv 3 (oI ((oS (fun w => nRt rt set w) h k) + 0))) 1 = some (oI ((set : Int))) := s1_ne (by decide) (fun _ => rfl) l1
        replace l2 : px_lg (px_s1 lv 3 (oI ((oS (fun w => nRt rt set w) h k) + 0))) 2 = some (oI (((uR (fun v => rB (fun u => rt (cpW u v)) 8) set 8 : Nat) : Int))) := s1_ne (by decide) (fun _ => rfl) l2
        replace l4 : px_lg (px_s1 lv 3 (oI ((oS (fun w => nRt rt set w) h k) + 0))) 4 = some (oI ((k : Int))) := s1_ne (by decide) (fun _ => rfl) l4
        have l3 : px_lg (px_s1 lv 3 (oI ((oS (fun w => nRt rt set w) h k) + 0))) 3 = some (oI ((oS (fun w => nRt rt set w) h k) + 0)) := s1_eq
        generalize px_s1 lv 3 (oI ((oS (fun w => nRt rt set w) h k) + 0)) = lv3 at l0 l1 l2 l4 l3 ⊢
        show t_X d 106 72 lv3 [] g P
        refine t_2 vnr_72 rfl (w := (px_s1 lv3 4 (oI ((k : Int) + 1)), [])) (pq_inc l4 (by decide)) ?_
        replace l0 : px_lg (px_s1 lv3 4 (oI ((k : Int) + 1))) 0 = some (pvR 177) := s1_ne (by decide) (fun _ => rfl) l0
        replace l1 : px_lg (px_s1 lv3 4 (oI ((k : Int) + 1))) 1 = some (oI ((set : Int))) := s1_ne (by decide) (fun _ => rfl) l1
        replace l2 : px_lg (px_s1 lv3 4 (oI ((k : Int) + 1))) 2 = some (oI (((uR (fun v => rB (fun u => rt (cpW u v)) 8) set 8 : Nat) : Int))) := s1_ne (by decide) (fun _ => rfl) l2
        replace l3 : px_lg (px_s1 lv3 4 (oI ((k : Int) + 1))) 3 = some (oI ((oS (fun w => nRt rt set w) h k) + 0)) := s1_ne (by decide) (fun _ => rfl) l3
        have l4 : px_lg (px_s1 lv3 4 (oI ((k : Int) + 1))) 4 = some (oI ((k : Int) + 1)) := s1_eq
        generalize px_s1 lv3 4 (oI ((k : Int) + 1)) = lv4 at l0 l1 l2 l3 l4 ⊢
        show t_X d 106 75 lv4 [] g P
        refine t_1 vnr_75 rfl (pb_goto (pc := 75) (by decide)) ?_
        show t_X d 106 42 lv4 [] g P
        exact ih (k + 1) _ (by omega) (by omega) l0 l1 l2 (by rw [oS_f (b := fun w => nRt rt set w) qn]; rw [show oS (fun w => nRt rt set w) h k + 0 = oS (fun w => nRt rt set w) h k by omega] at l3; exact l3) l4
      | false =>
        have qn : nRt rt set k = true := by
          rw [qb] at un
          cases z : nRt rt set k with
          | true => rfl
          | false => rw [z] at un; cases un
        refine t_0 vnr_42 rfl (ld_i l4) ?_
        refine t_0 vnr_44 rfl (pq_b (by decide)) ?_
        refine tb_ge vnr_46 (by decide) ⟨by omega, by omega⟩ ⟨by omega, by omega⟩ (fun c1 => absurd c1 (by omega)) (fun c1 => ?_)
        show t_X d 106 49 lv [] g P
        refine t_0 vnr_49 rfl (ld_i l3) ?_
        refine t_0 vnr_50 rfl (ld_i l2) ?_
        refine t_0 vnr_51 rfl (ld_i l4) ?_
        refine t_0 vnr_53 rfl rfl ?_
        refine t_0 vnr_54 rfl rfl ?_
        refine t_0 vnr_55 rfl (pq_hb (e := 0) (by rw [bt_n _ hU k hk, qb]; first | done | rfl)) ?_
        refine tz_eq vnr_56 (by decide) ⟨by omega, by omega⟩ (fun c2 => ?_) (fun c2 => absurd c2 (by omega))
        show t_X d 106 63 lv [oI (oS (fun w => nRt rt set w) h k)] g P
        refine t_0 vnr_63 rfl (ld_a l0) ?_
        refine t_0 vnr_64 rfl (ylcq_177_1 hG) ?_
        show t_X d 106 67 lv [pvR 178, oI (oS (fun w => nRt rt set w) h k)] g P
        refine t_0 vnr_67 rfl (ld_i l4) ?_
        refine t_0 vnr_69 rfl (pq_iw ylez_178 rfl ⟨by omega, by omega⟩ (h1 k hk)) ?_
        show t_X d 106 70 lv [oI (h k), oI (oS (fun w => nRt rt set w) h k)] g P
        refine t_0 vnr_70 rfl pq_add ?_
        refine t_2 vnr_71 rfl (w := (px_s1 lv 3 (oI ((oS (fun w => nRt rt set w) h k) + (h k))), [])) rfl ?_
        replace l0 : px_lg (px_s1 lv 3 (oI ((oS (fun w => nRt rt set w) h k) + (h k)))) 0 = some (pvR 177) := s1_ne (by decide) (fun _ => rfl) l0
        replace l1 : px_lg (px_s1 lv 3 (oI ((oS (fun w => nRt rt set w) h k) + (h k)))) 1 = some (oI ((set : Int))) := s1_ne (by decide) (fun _ => rfl) l1
        replace l2 : px_lg (px_s1 lv 3 (oI ((oS (fun w => nRt rt set w) h k) + (h k)))) 2 = some (oI (((uR (fun v => rB (fun u => rt (cpW u v)) 8) set 8 : Nat) : Int))) := s1_ne (by decide) (fun _ => rfl) l2
        replace l4 : px_lg (px_s1 lv 3 (oI ((oS (fun w => nRt rt set w) h k) + (h k)))) 4 = some (oI ((k : Int))) := s1_ne (by decide) (fun _ => rfl) l4
        have l3 : px_lg (px_s1 lv 3 (oI ((oS (fun w => nRt rt set w) h k) + (h k)))) 3 = some (oI ((oS (fun w => nRt rt set w) h k) + (h k))) := s1_eq
        generalize px_s1 lv 3 (oI ((oS (fun w => nRt rt set w) h k) + (h k))) = lv3 at l0 l1 l2 l4 l3 ⊢
        show t_X d 106 72 lv3 [] g P
        refine t_2 vnr_72 rfl (w := (px_s1 lv3 4 (oI ((k : Int) + 1)), [])) (pq_inc l4 (by decide)) ?_
        replace l0 : px_lg (px_s1 lv3 4 (oI ((k : Int) + 1))) 0 = some (pvR 177) := s1_ne (by decide) (fun _ => rfl) l0
        replace l1 : px_lg (px_s1 lv3 4 (oI ((k : Int) + 1))) 1 = some (oI ((set : Int))) := s1_ne (by decide) (fun _ => rfl) l1
        replace l2 : px_lg (px_s1 lv3 4 (oI ((k : Int) + 1))) 2 = some (oI (((uR (fun v => rB (fun u => rt (cpW u v)) 8) set 8 : Nat) : Int))) := s1_ne (by decide) (fun _ => rfl) l2
        replace l3 : px_lg (px_s1 lv3 4 (oI ((k : Int) + 1))) 3 = some (oI ((oS (fun w => nRt rt set w) h k) + (h k))) := s1_ne (by decide) (fun _ => rfl) l3
        have l4 : px_lg (px_s1 lv3 4 (oI ((k : Int) + 1))) 4 = some (oI ((k : Int) + 1)) := s1_eq
        generalize px_s1 lv3 4 (oI ((k : Int) + 1)) = lv4 at l0 l1 l2 l3 l4 ⊢
        show t_X d 106 75 lv4 [] g P
        refine t_1 vnr_75 rfl (pb_goto (pc := 75) (by decide)) ?_
        show t_X d 106 42 lv4 [] g P
        exact ih (k + 1) _ (by omega) (by omega) l0 l1 l2 (by rw [oS_y (b := fun w => nRt rt set w) qn]; exact l3) l4
    · skip
      refine t_0 vnr_42 rfl (ld_i l4) ?_
      refine t_0 vnr_44 rfl (pq_b (by decide)) ?_
      refine tb_ge vnr_46 (by decide) ⟨by omega, by omega⟩ ⟨by omega, by omega⟩ (fun c1 => ?_) (fun c1 => absurd c1 (by omega))
      show t_X d 106 78 lv [] g P
      refine t_0 vnr_78 rfl (ld_i l3) ?_
      refine t_5 vnr_79 rfl rfl ?_
      obtain rfl : k = 8 := by omega
      exact hP
theorem vnr_c {set : Nat} (hs : set < 256) {d : Nat} {g : pH} (hG : g_I eG g) {h : Nat → Int} {rt : Nat → Bool} (h1 : ∀ j, j < 8 → fA g 178 j = h j) (h3 : ∀ j, j < 8 → fA g 180 j = (((fun v => rB (fun u => rt (cpW u v)) 8) j : Nat) : Int)) {P : Option pv × pH → Prop} (hP : P (some (oI (oO h rt set)), g)) {lv : List (Nat × pv)} (l0 : px_lg lv 0 = some (pvR 177)) (l1 : px_lg lv 1 = some (oI (set : Int))) (l2 : px_lg lv 2 = some (oI ((uR (fun v => rB (fun u => rt (cpW u v)) 8) set 8 : Nat) : Int))) : t_X d 106 37 lv [] g P := by
  refine t_0 vnr_37 rfl rfl ?_
  refine t_2 vnr_38 rfl (w := (px_s1 lv 3 (oI 0), [])) rfl ?_
  replace l0 : px_lg (px_s1 lv 3 (oI 0)) 0 = some (pvR 177) := s1_ne (by decide) (fun _ => rfl) l0
  replace l1 : px_lg (px_s1 lv 3 (oI 0)) 1 = some (oI ((set : Int))) := s1_ne (by decide) (fun _ => rfl) l1
  replace l2 : px_lg (px_s1 lv 3 (oI 0)) 2 = some (oI (((uR (fun v => rB (fun u => rt (cpW u v)) 8) set 8 : Nat) : Int))) := s1_ne (by decide) (fun _ => rfl) l2
  have l3 : px_lg (px_s1 lv 3 (oI 0)) 3 = some (oI 0) := s1_eq
  generalize px_s1 lv 3 (oI 0) = lv1 at l0 l1 l2 l3 ⊢
  show t_X d 106 39 lv1 [] g P
  refine t_0 vnr_39 rfl rfl ?_
  refine t_2 vnr_40 rfl (w := (px_s1 lv1 4 (oI 0), [])) rfl ?_
  replace l0 : px_lg (px_s1 lv1 4 (oI 0)) 0 = some (pvR 177) := s1_ne (by decide) (fun _ => rfl) l0
  replace l1 : px_lg (px_s1 lv1 4 (oI 0)) 1 = some (oI ((set : Int))) := s1_ne (by decide) (fun _ => rfl) l1
  replace l2 : px_lg (px_s1 lv1 4 (oI 0)) 2 = some (oI (((uR (fun v => rB (fun u => rt (cpW u v)) 8) set 8 : Nat) : Int))) := s1_ne (by decide) (fun _ => rfl) l2
  replace l3 : px_lg (px_s1 lv1 4 (oI 0)) 3 = some (oI 0) := s1_ne (by decide) (fun _ => rfl) l3
  have l4 : px_lg (px_s1 lv1 4 (oI 0)) 4 = some (oI 0) := s1_eq
  generalize px_s1 lv1 4 (oI 0) = lv2 at l0 l1 l2 l3 l4 ⊢
  show t_X d 106 42 lv2 [] g P
  exact vnr_b hs hG h1 h3 hP 8 0 _ (by omega) (by omega) l0 l1 l2 l3 l4
theorem vnr_run {set : Nat} (hs : set < 256) {d : Nat} {g : pH} (hG : g_I eG g) {h : Nat → Int} {rt : Nat → Bool} (h1 : ∀ j, j < 8 → fA g 178 j = h j) (h3 : ∀ j, j < 8 → fA g 180 j = (((fun v => rB (fun u => rt (cpW u v)) 8) j : Nat) : Int)) {P : Option pv × pH → Prop} (hP : P (some (oI (oO h rt set)), g)) {lv : List (Nat × pv)} (l0 : px_lg lv 0 = some (pvR 177)) (l1 : px_lg lv 1 = some (oI (set : Int))) : t_X d 106 0 lv [] g P := by
  refine t_0 vnr_0 rfl rfl ?_
  refine t_2 vnr_1 rfl (w := (px_s1 lv 2 (oI 0), [])) rfl ?_
  replace l0 : px_lg (px_s1 lv 2 (oI 0)) 0 = some (pvR 177) := s1_ne (by decide) (fun _ => rfl) l0
  replace l1 : px_lg (px_s1 lv 2 (oI 0)) 1 = some (oI ((set : Int))) := s1_ne (by decide) (fun _ => rfl) l1
  have l2 : px_lg (px_s1 lv 2 (oI 0)) 2 = some (oI 0) := s1_eq
  generalize px_s1 lv 2 (oI 0) = lv1 at l0 l1 l2 ⊢
  show t_X d 106 2 lv1 [] g P
  refine t_0 vnr_2 rfl rfl ?_
  refine t_2 vnr_3 rfl (w := (px_s1 lv1 3 (oI 0), [])) rfl ?_
  replace l0 : px_lg (px_s1 lv1 3 (oI 0)) 0 = some (pvR 177) := s1_ne (by decide) (fun _ => rfl) l0
  replace l1 : px_lg (px_s1 lv1 3 (oI 0)) 1 = some (oI ((set : Int))) := s1_ne (by decide) (fun _ => rfl) l1
  replace l2 : px_lg (px_s1 lv1 3 (oI 0)) 2 = some (oI 0) := s1_ne (by decide) (fun _ => rfl) l2
  have l3 : px_lg (px_s1 lv1 3 (oI 0)) 3 = some (oI 0) := s1_eq
  generalize px_s1 lv1 3 (oI 0) = lv2 at l0 l1 l2 l3 ⊢
  show t_X d 106 4 lv2 [] g P
  exact vnr_a hs hG h1 h3 (fun lv l0 l1 l2 => vnr_c hs hG h1 h3 hP l0 l1 l2) 8 0 _ (by omega) (by omega) l0 l1 l2 l3
theorem vsb_run {set last next : Nat} (hs : set < 256) (hs2 : set ||| 2 ^ next < 256) (hl : last < 8) (hn : next < 8) {d : Nat} (hd : 2 ≤ d) {g : pH} (hG : g_I eG g) {h tk : Nat → Int} {rt : Nat → Bool} (h2 : ∀ j, j < 8 → fA g 179 j = tk j) (hO : fA g 181 set = oO h rt set) (hV : fA g 182 ((set ||| 2 ^ next) * 8 + next) = gV h tk rt (set ||| 2 ^ next) next) {P : Option pv × pH → Prop} (hP : P (some (oI (gT h tk rt set last next)), g)) {lv : List (Nat × pv)} (l0 : px_lg lv 0 = some (pvR 177)) (l1 : px_lg lv 1 = some (oI (set : Int))) (l2 : px_lg lv 2 = some (oI (last : Int))) (l3 : px_lg lv 3 = some (oI (next : Int))) : t_X d 107 0 lv [] g P := by
  have tl := (tbW_c last hl next hn).1
  refine t_0 vsb_0 rfl (ld_i l2) ?_
  refine t_0 vsb_1 rfl (ld_i l3) ?_
  refine t_3 vsb_2 rfl (ar := ([oI ((last : Int)), oI ((next : Int))], [])) (pcal_s ⟨Or.inr rfl, rfl, Nat.le_of_ble_eq_true rfl⟩) ⟨by omega, Nat.le_of_ble_eq_true rfl, Nat.le_of_ble_eq_true rfl, rfl⟩ ?_
  refine vtb_run hl hn (by omega) ?_ rfl rfl
  show t_X d 107 5 lv [oI (((tbW last next : Nat) : Int))] g P
  refine t_2 vsb_5 rfl (w := (px_s1 lv 4 (oI (((tbW last next : Nat) : Int))), [])) rfl ?_
  replace l0 : px_lg (px_s1 lv 4 (oI (((tbW last next : Nat) : Int)))) 0 = some (pvR 177) := s1_ne (by decide) (fun _ => rfl) l0
  replace l1 : px_lg (px_s1 lv 4 (oI (((tbW last next : Nat) : Int)))) 1 = some (oI ((set : Int))) := s1_ne (by decide) (fun _ => rfl) l1
  replace l2 : px_lg (px_s1 lv 4 (oI (((tbW last next : Nat) : Int)))) 2 = some (oI ((last : Int))) := s1_ne (by decide) (fun _ => rfl) l2
  replace l3 : px_lg (px_s1 lv 4 (oI (((tbW last next : Nat) : Int)))) 3 = some (oI ((next : Int))) := s1_ne (by decide) (fun _ => rfl) l3
  have l4 : px_lg (px_s1 lv 4 (oI (((tbW last next : Nat) : Int)))) 4 = some (oI (((tbW last next : Nat) : Int))) := s1_eq
  generalize px_s1 lv 4 (oI (((tbW last next : Nat) : Int))) = lv1 at l0 l1 l2 l3 l4 ⊢
  show t_X d 107 7 lv1 [] g P
  refine t_0 vsb_7 rfl (ld_a l0) ?_
  refine t_0 vsb_8 rfl (ylcq_177_4 hG) ?_
  show t_X d 107 11 lv1 [pvR 181] g P
  refine t_0 vsb_11 rfl (ld_i l1) ?_
  refine t_0 vsb_12 rfl (pq_iw ylez_181 rfl ⟨by omega, by omega⟩ hO) ?_
  show t_X d 107 13 lv1 [oI (oO h rt set)] g P
  refine t_0 vsb_13 rfl (ld_a l0) ?_
  refine t_0 vsb_14 rfl (ylcq_177_2 hG) ?_
  show t_X d 107 17 lv1 [pvR 179, oI (oO h rt set)] g P
  refine t_0 vsb_17 rfl (ld_i l4) ?_
  refine t_0 vsb_19 rfl (pq_iw ylez_179 rfl ⟨by omega, by omega⟩ (h2 _ (tbW_c last hl next hn).1)) ?_
  show t_X d 107 20 lv1 [oI (tk (tbW last next)), oI (oO h rt set)] g P
  refine t_0 vsb_20 rfl pq_mul ?_
  refine t_0 vsb_21 rfl (ld_a l0) ?_
  refine t_0 vsb_22 rfl (ylcq_177_5 hG) ?_
  show t_X d 107 25 lv1 [pvR 182, oI ((oO h rt set) * (tk (tbW last next)))] g P
  refine t_0 vsb_25 rfl (ld_i l1) ?_
  refine t_0 vsb_26 rfl rfl ?_
  refine t_0 vsb_27 rfl (ld_i l3) ?_
  refine t_0 vsb_28 rfl rfl ?_
  refine t_0 vsb_29 rfl (pq_ho (or_n hn)) ?_
  refine t_0 vsb_30 rfl (pq_b (by decide)) ?_
  refine t_0 vsb_32 rfl pq_mul ?_
  refine t_0 vsb_33 rfl (ld_i l3) ?_
  refine t_0 vsb_34 rfl pq_add ?_
  rw [show (((set ||| 2 ^ next : Nat) : Int) * 8) + (next : Int) = (((set ||| 2 ^ next) * 8 + next : Nat) : Int) by omega]
  refine t_0 vsb_35 rfl (pq_iw ylez_182 rfl ⟨by omega, by omega⟩ hV) ?_
  show t_X d 107 36 lv1 [oI (gV h tk rt (set ||| 2 ^ next) next), oI ((oO h rt set) * (tk (tbW last next)))] g P
  refine t_0 vsb_36 rfl pq_add ?_
  refine t_5 vsb_37 rfl rfl ?_
  exact hP
theorem vff_loop {set last : Nat} (hs : set < 256) (hl : last < 8) (hb : set.testBit last = true) {d : Nat} (hd : 3 ≤ d) {g : pH} (hG : g_I eG g) {h tk : Nat → Int} {rt : Nat → Bool} (hh : ∀ w, 0 ≤ h w ∧ h w ≤ 99) (ht : ∀ t, 0 ≤ tk t ∧ tk t ≤ 99) (h2 : ∀ j, j < 8 → fA g 179 j = tk j) (hO : fA g 181 set = oO h rt set) (hV : ∀ v, v < 8 → set.testBit v = false → fA g 182 ((set ||| 2 ^ v) * 8 + v) = gV h tk rt (set ||| 2 ^ v) v) {P : Option pv × pH → Prop} (hP : P (some (oI (gV h tk rt set last)), g)) : ∀ (r k : Nat) (x : Int) (lv : List (Nat × pv)), 8 - k ≤ r → k ≤ 8 → dfI h tk rt set last k x → (-1 ≤ x ∧ x ≤ 2000000) → px_lg lv 0 = some (pvR 177) → px_lg lv 1 = some (oI (set : Int)) → px_lg lv 2 = some (oI (last : Int)) → px_lg lv 3 = some (oI x) → px_lg lv 4 = some (oI (k : Int)) → t_X d 100 5 lv [] g P := by
  intro r
  induction r with
  | zero =>
    intro k x lv hr hk2 hI hx l0 l1 l2 l3 l4
    refine t_0 vff_5 rfl (ld_i l4) ?_
    refine t_0 vff_7 rfl (pq_b (by decide)) ?_
    refine tb_ge vff_9 (by decide) ⟨by omega, by omega⟩ ⟨by omega, by omega⟩ (fun c1 => ?_) (fun c1 => absurd c1 (by omega))
    show t_X d 100 55 lv [] g P
    obtain rfl : k = 8 := by omega
    refine t_0 vff_55 rfl (ld_i l3) ?_
    refine t_0 vff_56 rfl rfl ?_
    refine t_0 vff_57 rfl (pq_mx (by omega) (Nat.le_of_ble_eq_true rfl) ⟨by omega, by omega⟩ ⟨by omega, by omega⟩) ?_
    rw [show (if x < (0 : Int) then (0 : Int) else x) = gV h tk rt set last from dfI_g hh ht hs hl hb hI]
    show t_X d 100 60 lv [oI (gV h tk rt set last)] g P
    refine t_5 vff_60 rfl rfl ?_
    exact hP
  | succ r ih =>
    intro k x lv hr hk2 hI hx l0 l1 l2 l3 l4
    by_cases hk : k < 8
    · cases qb : set.testBit k with
      | true =>
        refine t_0 vff_5 rfl (ld_i l4) ?_
        refine t_0 vff_7 rfl (pq_b (by decide)) ?_
        refine tb_ge vff_9 (by decide) ⟨by omega, by omega⟩ ⟨by omega, by omega⟩ (fun c1 => absurd c1 (by omega)) (fun c1 => ?_)
        show t_X d 100 12 lv [] g P
        refine t_0 vff_12 rfl (ld_i l1) ?_
        refine t_0 vff_13 rfl (ld_i l4) ?_
        refine t_0 vff_15 rfl rfl ?_
        refine t_0 vff_16 rfl rfl ?_
        refine t_0 vff_17 rfl (pq_hb (e := 1) (by rw [bt_n set hs k hk, qb]; first | done | rfl)) ?_
        refine tz_ne vff_18 (by decide) ⟨by omega, by omega⟩ (fun c2 => ?_) (fun c2 => absurd c2 (by omega))
        show t_X d 100 49 lv [] g P
        refine t_2 vff_49 rfl (w := (px_s1 lv 4 (oI ((k : Int) + 1)), [])) (pq_inc l4 (by decide)) ?_
        replace l0 : px_lg (px_s1 lv 4 (oI ((k : Int) + 1))) 0 = some (pvR 177) := s1_ne (by decide) (fun _ => rfl) l0
        replace l1 : px_lg (px_s1 lv 4 (oI ((k : Int) + 1))) 1 = some (oI ((set : Int))) := s1_ne (by decide) (fun _ => rfl) l1
        replace l2 : px_lg (px_s1 lv 4 (oI ((k : Int) + 1))) 2 = some (oI ((last : Int))) := s1_ne (by decide) (fun _ => rfl) l2
        replace l3 : px_lg (px_s1 lv 4 (oI ((k : Int) + 1))) 3 = some (oI (x)) := s1_ne (by decide) (fun _ => rfl) l3
        have l4 : px_lg (px_s1 lv 4 (oI ((k : Int) + 1))) 4 = some (oI ((k : Int) + 1)) := s1_eq
        generalize px_s1 lv 4 (oI ((k : Int) + 1)) = lv3 at l0 l1 l2 l3 l4 ⊢
        show t_X d 100 52 lv3 [] g P
        refine t_1 vff_52 rfl (pb_goto (pc := 52) (by decide)) ?_
        show t_X d 100 5 lv3 [] g P
        exact ih (k + 1) _ _ (by omega) (by omega) (dfI_t hI qb) hx l0 l1 l2 l3 l4
      | false =>
        have gb := gT_b (rt := rt) (last := last) hh ht hs hk qb
        have h0 : ∀ v, v < k + 1 → set.testBit v = false → 0 ≤ gT h tk rt set last v := fun v hv hf => (gT_b (rt := rt) (last := last) hh ht hs (by omega) hf).1
        refine t_0 vff_5 rfl (ld_i l4) ?_
        refine t_0 vff_7 rfl (pq_b (by decide)) ?_
        refine tb_ge vff_9 (by decide) ⟨by omega, by omega⟩ ⟨by omega, by omega⟩ (fun c1 => absurd c1 (by omega)) (fun c1 => ?_)
        show t_X d 100 12 lv [] g P
        refine t_0 vff_12 rfl (ld_i l1) ?_
        refine t_0 vff_13 rfl (ld_i l4) ?_
        refine t_0 vff_15 rfl rfl ?_
        refine t_0 vff_16 rfl rfl ?_
        refine t_0 vff_17 rfl (pq_hb (e := 0) (by rw [bt_n set hs k hk, qb]; first | done | rfl)) ?_
        refine tz_ne vff_18 (by decide) ⟨by omega, by omega⟩ (fun c2 => absurd c2 (by omega)) (fun c2 => ?_)
        show t_X d 100 21 lv [] g P
        refine t_0 vff_21 rfl (ld_a l0) ?_
        refine t_0 vff_22 rfl (ld_i l1) ?_
        refine t_0 vff_23 rfl (ld_i l2) ?_
        refine t_0 vff_24 rfl (ld_i l4) ?_
        refine t_3 vff_26 rfl (ar := ([pvR 177, oI ((set : Int)), oI ((last : Int)), oI ((k : Int))], [])) (pcal_w (as := [oI ((k : Int)), oI ((last : Int)), oI ((set : Int))]) rfl rfl rfl yleo_177) ⟨by omega, Nat.le_of_ble_eq_true rfl, Nat.le_of_ble_eq_true rfl, rfl⟩ ?_
        refine vsb_run hs (cnt_o set hs k hk qb).2.1 hl hk (by omega) hG h2 hO (hV k hk qb) ?_ rfl rfl rfl rfl
        show t_X d 100 29 lv [oI (gT h tk rt set last k)] g P
        refine t_2 vff_29 rfl (w := (px_s1 lv 5 (oI (gT h tk rt set last k)), [])) rfl ?_
        replace l0 : px_lg (px_s1 lv 5 (oI (gT h tk rt set last k))) 0 = some (pvR 177) := s1_ne (by decide) (fun _ => rfl) l0
        replace l1 : px_lg (px_s1 lv 5 (oI (gT h tk rt set last k))) 1 = some (oI ((set : Int))) := s1_ne (by decide) (fun _ => rfl) l1
        replace l2 : px_lg (px_s1 lv 5 (oI (gT h tk rt set last k))) 2 = some (oI ((last : Int))) := s1_ne (by decide) (fun _ => rfl) l2
        replace l3 : px_lg (px_s1 lv 5 (oI (gT h tk rt set last k))) 3 = some (oI (x)) := s1_ne (by decide) (fun _ => rfl) l3
        replace l4 : px_lg (px_s1 lv 5 (oI (gT h tk rt set last k))) 4 = some (oI ((k : Int))) := s1_ne (by decide) (fun _ => rfl) l4
        have l5 : px_lg (px_s1 lv 5 (oI (gT h tk rt set last k))) 5 = some (oI (gT h tk rt set last k)) := s1_eq
        generalize px_s1 lv 5 (oI (gT h tk rt set last k)) = lv3 at l0 l1 l2 l3 l4 l5 ⊢
        show t_X d 100 31 lv3 [] g P
        refine t_0 vff_31 rfl (ld_i l3) ?_
        refine t_0 vff_32 rfl rfl ?_
        refine tb_eq vff_33 (by decide) ⟨by omega, by omega⟩ ⟨by omega, by omega⟩ (fun c4 => ?_) (fun c4 => ?_)
        · show t_X d 100 42 lv3 [] g P
          refine t_0 vff_42 rfl (ld_i l5) ?_
          refine t_1 vff_44 rfl (pb_goto (pc := 44) (by decide)) ?_
          show t_X d 100 48 lv3 [oI (gT h tk rt set last k)] g P
          refine t_2 vff_48 rfl (w := (px_s1 lv3 3 (oI (gT h tk rt set last k)), [])) rfl ?_
          replace l0 : px_lg (px_s1 lv3 3 (oI (gT h tk rt set last k))) 0 = some (pvR 177) := s1_ne (by decide) (fun _ => rfl) l0
          replace l1 : px_lg (px_s1 lv3 3 (oI (gT h tk rt set last k))) 1 = some (oI ((set : Int))) := s1_ne (by decide) (fun _ => rfl) l1
          replace l2 : px_lg (px_s1 lv3 3 (oI (gT h tk rt set last k))) 2 = some (oI ((last : Int))) := s1_ne (by decide) (fun _ => rfl) l2
          replace l4 : px_lg (px_s1 lv3 3 (oI (gT h tk rt set last k))) 4 = some (oI ((k : Int))) := s1_ne (by decide) (fun _ => rfl) l4
          replace l5 : px_lg (px_s1 lv3 3 (oI (gT h tk rt set last k))) 5 = some (oI (gT h tk rt set last k)) := s1_ne (by decide) (fun _ => rfl) l5
          have l3 : px_lg (px_s1 lv3 3 (oI (gT h tk rt set last k))) 3 = some (oI (gT h tk rt set last k)) := s1_eq
          generalize px_s1 lv3 3 (oI (gT h tk rt set last k)) = lv5 at l0 l1 l2 l4 l5 l3 ⊢
          show t_X d 100 49 lv5 [] g P
          refine t_2 vff_49 rfl (w := (px_s1 lv5 4 (oI ((k : Int) + 1)), [])) (pq_inc l4 (by decide)) ?_
          replace l0 : px_lg (px_s1 lv5 4 (oI ((k : Int) + 1))) 0 = some (pvR 177) := s1_ne (by decide) (fun _ => rfl) l0
          replace l1 : px_lg (px_s1 lv5 4 (oI ((k : Int) + 1))) 1 = some (oI ((set : Int))) := s1_ne (by decide) (fun _ => rfl) l1
          replace l2 : px_lg (px_s1 lv5 4 (oI ((k : Int) + 1))) 2 = some (oI ((last : Int))) := s1_ne (by decide) (fun _ => rfl) l2
          replace l5 : px_lg (px_s1 lv5 4 (oI ((k : Int) + 1))) 5 = some (oI (gT h tk rt set last k)) := s1_ne (by decide) (fun _ => rfl) l5
          replace l3 : px_lg (px_s1 lv5 4 (oI ((k : Int) + 1))) 3 = some (oI (gT h tk rt set last k)) := s1_ne (by decide) (fun _ => rfl) l3
          have l4 : px_lg (px_s1 lv5 4 (oI ((k : Int) + 1))) 4 = some (oI ((k : Int) + 1)) := s1_eq
          generalize px_s1 lv5 4 (oI ((k : Int) + 1)) = lv6 at l0 l1 l2 l5 l3 l4 ⊢
          show t_X d 100 52 lv6 [] g P
          refine t_1 vff_52 rfl (pb_goto (pc := 52) (by decide)) ?_
          show t_X d 100 5 lv6 [] g P
          exact ih (k + 1) _ _ (by omega) (by omega) (dfI_a hI qb (by omega) h0) (by omega) l0 l1 l2 l3 l4
        · show t_X d 100 36 lv3 [] g P
          refine t_0 vff_36 rfl (ld_i l5) ?_
          refine t_0 vff_38 rfl (ld_i l3) ?_
          refine tb_ge vff_39 (by decide) ⟨by omega, by omega⟩ ⟨by omega, by omega⟩ (fun c7 => ?_) (fun c7 => ?_)
          · show t_X d 100 47 lv3 [] g P
            refine t_0 vff_47 rfl (ld_i l3) ?_
            refine t_2 vff_48 rfl (w := (px_s1 lv3 3 (oI (x)), [])) rfl ?_
            replace l0 : px_lg (px_s1 lv3 3 (oI (x))) 0 = some (pvR 177) := s1_ne (by decide) (fun _ => rfl) l0
            replace l1 : px_lg (px_s1 lv3 3 (oI (x))) 1 = some (oI ((set : Int))) := s1_ne (by decide) (fun _ => rfl) l1
            replace l2 : px_lg (px_s1 lv3 3 (oI (x))) 2 = some (oI ((last : Int))) := s1_ne (by decide) (fun _ => rfl) l2
            replace l4 : px_lg (px_s1 lv3 3 (oI (x))) 4 = some (oI ((k : Int))) := s1_ne (by decide) (fun _ => rfl) l4
            replace l5 : px_lg (px_s1 lv3 3 (oI (x))) 5 = some (oI (gT h tk rt set last k)) := s1_ne (by decide) (fun _ => rfl) l5
            have l3 : px_lg (px_s1 lv3 3 (oI (x))) 3 = some (oI (x)) := s1_eq
            generalize px_s1 lv3 3 (oI (x)) = lv8 at l0 l1 l2 l4 l5 l3 ⊢
            show t_X d 100 49 lv8 [] g P
            refine t_2 vff_49 rfl (w := (px_s1 lv8 4 (oI ((k : Int) + 1)), [])) (pq_inc l4 (by decide)) ?_
            replace l0 : px_lg (px_s1 lv8 4 (oI ((k : Int) + 1))) 0 = some (pvR 177) := s1_ne (by decide) (fun _ => rfl) l0
            replace l1 : px_lg (px_s1 lv8 4 (oI ((k : Int) + 1))) 1 = some (oI ((set : Int))) := s1_ne (by decide) (fun _ => rfl) l1
            replace l2 : px_lg (px_s1 lv8 4 (oI ((k : Int) + 1))) 2 = some (oI ((last : Int))) := s1_ne (by decide) (fun _ => rfl) l2
            replace l5 : px_lg (px_s1 lv8 4 (oI ((k : Int) + 1))) 5 = some (oI (gT h tk rt set last k)) := s1_ne (by decide) (fun _ => rfl) l5
            replace l3 : px_lg (px_s1 lv8 4 (oI ((k : Int) + 1))) 3 = some (oI (x)) := s1_ne (by decide) (fun _ => rfl) l3
            have l4 : px_lg (px_s1 lv8 4 (oI ((k : Int) + 1))) 4 = some (oI ((k : Int) + 1)) := s1_eq
            generalize px_s1 lv8 4 (oI ((k : Int) + 1)) = lv9 at l0 l1 l2 l5 l3 l4 ⊢
            show t_X d 100 52 lv9 [] g P
            refine t_1 vff_52 rfl (pb_goto (pc := 52) (by decide)) ?_
            show t_X d 100 5 lv9 [] g P
            exact ih (k + 1) _ _ (by omega) (by omega) (dfI_b hI (by omega) (by omega)) hx l0 l1 l2 l3 l4
          · show t_X d 100 42 lv3 [] g P
            refine t_0 vff_42 rfl (ld_i l5) ?_
            refine t_1 vff_44 rfl (pb_goto (pc := 44) (by decide)) ?_
            show t_X d 100 48 lv3 [oI (gT h tk rt set last k)] g P
            refine t_2 vff_48 rfl (w := (px_s1 lv3 3 (oI (gT h tk rt set last k)), [])) rfl ?_
            replace l0 : px_lg (px_s1 lv3 3 (oI (gT h tk rt set last k))) 0 = some (pvR 177) := s1_ne (by decide) (fun _ => rfl) l0
            replace l1 : px_lg (px_s1 lv3 3 (oI (gT h tk rt set last k))) 1 = some (oI ((set : Int))) := s1_ne (by decide) (fun _ => rfl) l1
            replace l2 : px_lg (px_s1 lv3 3 (oI (gT h tk rt set last k))) 2 = some (oI ((last : Int))) := s1_ne (by decide) (fun _ => rfl) l2
            replace l4 : px_lg (px_s1 lv3 3 (oI (gT h tk rt set last k))) 4 = some (oI ((k : Int))) := s1_ne (by decide) (fun _ => rfl) l4
            replace l5 : px_lg (px_s1 lv3 3 (oI (gT h tk rt set last k))) 5 = some (oI (gT h tk rt set last k)) := s1_ne (by decide) (fun _ => rfl) l5
            have l3 : px_lg (px_s1 lv3 3 (oI (gT h tk rt set last k))) 3 = some (oI (gT h tk rt set last k)) := s1_eq
            generalize px_s1 lv3 3 (oI (gT h tk rt set last k)) = lv10 at l0 l1 l2 l4 l5 l3 ⊢
            show t_X d 100 49 lv10 [] g P
            refine t_2 vff_49 rfl (w := (px_s1 lv10 4 (oI ((k : Int) + 1)), [])) (pq_inc l4 (by decide)) ?_
            replace l0 : px_lg (px_s1 lv10 4 (oI ((k : Int) + 1))) 0 = some (pvR 177) := s1_ne (by decide) (fun _ => rfl) l0
            replace l1 : px_lg (px_s1 lv10 4 (oI ((k : Int) + 1))) 1 = some (oI ((set : Int))) := s1_ne (by decide) (fun _ => rfl) l1
            replace l2 : px_lg (px_s1 lv10 4 (oI ((k : Int) + 1))) 2 = some (oI ((last : Int))) := s1_ne (by decide) (fun _ => rfl) l2
            replace l5 : px_lg (px_s1 lv10 4 (oI ((k : Int) + 1))) 5 = some (oI (gT h tk rt set last k)) := s1_ne (by decide) (fun _ => rfl) l5
            replace l3 : px_lg (px_s1 lv10 4 (oI ((k : Int) + 1))) 3 = some (oI (gT h tk rt set last k)) := s1_ne (by decide) (fun _ => rfl) l3
            have l4 : px_lg (px_s1 lv10 4 (oI ((k : Int) + 1))) 4 = some (oI ((k : Int) + 1)) := s1_eq
            generalize px_s1 lv10 4 (oI ((k : Int) + 1)) = lv11 at l0 l1 l2 l5 l3 l4 ⊢
            show t_X d 100 52 lv11 [] g P
            refine t_1 vff_52 rfl (pb_goto (pc := 52) (by decide)) ?_
            show t_X d 100 5 lv11 [] g P
            exact ih (k + 1) _ _ (by omega) (by omega) (dfI_a hI qb (by omega) h0) (by omega) l0 l1 l2 l3 l4
    · skip
      refine t_0 vff_5 rfl (ld_i l4) ?_
      refine t_0 vff_7 rfl (pq_b (by decide)) ?_
      refine tb_ge vff_9 (by decide) ⟨by omega, by omega⟩ ⟨by omega, by omega⟩ (fun c1 => ?_) (fun c1 => absurd c1 (by omega))
      show t_X d 100 55 lv [] g P
      obtain rfl : k = 8 := by omega
      refine t_0 vff_55 rfl (ld_i l3) ?_
      refine t_0 vff_56 rfl rfl ?_
      refine t_0 vff_57 rfl (pq_mx (by omega) (Nat.le_of_ble_eq_true rfl) ⟨by omega, by omega⟩ ⟨by omega, by omega⟩) ?_
      rw [show (if x < (0 : Int) then (0 : Int) else x) = gV h tk rt set last from dfI_g hh ht hs hl hb hI]
      show t_X d 100 60 lv [oI (gV h tk rt set last)] g P
      refine t_5 vff_60 rfl rfl ?_
      exact hP
theorem vff_run {set last : Nat} (hs : set < 256) (hl : last < 8) (hb : set.testBit last = true) {d : Nat} (hd : 3 ≤ d) {g : pH} (hG : g_I eG g) {h tk : Nat → Int} {rt : Nat → Bool} (hh : ∀ w, 0 ≤ h w ∧ h w ≤ 99) (ht : ∀ t, 0 ≤ tk t ∧ tk t ≤ 99) (h2 : ∀ j, j < 8 → fA g 179 j = tk j) (hO : fA g 181 set = oO h rt set) (hV : ∀ v, v < 8 → set.testBit v = false → fA g 182 ((set ||| 2 ^ v) * 8 + v) = gV h tk rt (set ||| 2 ^ v) v) {P : Option pv × pH → Prop} (hP : P (some (oI (gV h tk rt set last)), g)) {lv : List (Nat × pv)} (l0 : px_lg lv 0 = some (pvR 177)) (l1 : px_lg lv 1 = some (oI (set : Int))) (l2 : px_lg lv 2 = some (oI (last : Int))) : t_X d 100 0 lv [] g P := by
  refine t_0 vff_0 rfl rfl ?_
  refine t_2 vff_1 rfl (w := (px_s1 lv 3 (oI (-1)), [])) rfl ?_
  replace l0 : px_lg (px_s1 lv 3 (oI (-1))) 0 = some (pvR 177) := s1_ne (by decide) (fun _ => rfl) l0
  replace l1 : px_lg (px_s1 lv 3 (oI (-1))) 1 = some (oI ((set : Int))) := s1_ne (by decide) (fun _ => rfl) l1
  replace l2 : px_lg (px_s1 lv 3 (oI (-1))) 2 = some (oI ((last : Int))) := s1_ne (by decide) (fun _ => rfl) l2
  have l3 : px_lg (px_s1 lv 3 (oI (-1))) 3 = some (oI (-1)) := s1_eq
  generalize px_s1 lv 3 (oI (-1)) = lv1 at l0 l1 l2 l3 ⊢
  show t_X d 100 2 lv1 [] g P
  refine t_0 vff_2 rfl rfl ?_
  refine t_2 vff_3 rfl (w := (px_s1 lv1 4 (oI 0), [])) rfl ?_
  replace l0 : px_lg (px_s1 lv1 4 (oI 0)) 0 = some (pvR 177) := s1_ne (by decide) (fun _ => rfl) l0
  replace l1 : px_lg (px_s1 lv1 4 (oI 0)) 1 = some (oI ((set : Int))) := s1_ne (by decide) (fun _ => rfl) l1
  replace l2 : px_lg (px_s1 lv1 4 (oI 0)) 2 = some (oI ((last : Int))) := s1_ne (by decide) (fun _ => rfl) l2
  replace l3 : px_lg (px_s1 lv1 4 (oI 0)) 3 = some (oI (-1)) := s1_ne (by decide) (fun _ => rfl) l3
  have l4 : px_lg (px_s1 lv1 4 (oI 0)) 4 = some (oI 0) := s1_eq
  generalize px_s1 lv1 4 (oI 0) = lv2 at l0 l1 l2 l3 l4 ⊢
  show t_X d 100 5 lv2 [] g P
  exact vff_loop hs hl hb hd hG hh ht h2 hO hV hP 8 0 _ _ (by omega) (by omega) dfI_0 ⟨by omega, by omega⟩ l0 l1 l2 l3 l4
