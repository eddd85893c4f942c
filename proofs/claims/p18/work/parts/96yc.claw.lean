/-! class: the law's text, exactly: factors to conditions (printed by wip/e2/v2.py) -/
theorem vcm_0 : xe_look (xc 48) 0 = some (.aload_n 0, 1, 0, 0, 0) := by decide +kernel
theorem vcm_1 : xe_look (xc 48) 1 = some (.iload_n 1, 1, 0, 0, 0) := by decide +kernel
theorem vcm_2 : xe_look (xc 48) 2 = some (.invokevirtual 71, 3, 0, 54, 864) := by decide +kernel
theorem vcm_5 : xe_look (xc 48) 5 = some (.aload_n 0, 1, 0, 0, 0) := by decide +kernel
theorem vcm_6 : xe_look (xc 48) 6 = some (.ldc 101, 2, 1, 1, 0) := by decide +kernel
theorem vcm_8 : xe_look (xc 48) 8 = some (.bipush 7, 2, 0, 0, 0) := by decide +kernel
theorem vcm_10 : xe_look (xc 48) 10 = some (.invokevirtual 103, 3, 0, 45, 868) := by decide +kernel
theorem vcm_13 : xe_look (xc 48) 13 = some (.istore_n 2, 1, 0, 0, 0) := by decide +kernel
theorem vcm_14 : xe_look (xc 48) 14 = some (.iload_n 2, 1, 0, 0, 0) := by decide +kernel
theorem vcm_15 : xe_look (xc 48) 15 = some (.iconst (-1), 1, 0, 0, 0) := by decide +kernel
theorem vcm_16 : xe_look (xc 48) 16 = some (.if_icmp .ne 9, 3, 0, 0, 0) := by decide +kernel
theorem vcm_19 : xe_look (xc 48) 19 = some (.aload_n 0, 1, 0, 0, 0) := by decide +kernel
theorem vcm_20 : xe_look (xc 48) 20 = some (.iconst 1, 1, 0, 0, 0) := by decide +kernel
theorem vcm_21 : xe_look (xc 48) 21 = some (.invokevirtual 64, 3, 0, 42, 852) := by decide +kernel
theorem vcm_24 : xe_look (xc 48) 24 = some (.return_, 1, 0, 0, 0) := by decide +kernel
theorem vcm_25 : xe_look (xc 48) 25 = some (.aload_n 0, 1, 0, 0, 0) := by decide +kernel
theorem vcm_26 : xe_look (xc 48) 26 = some (.dup, 1, 0, 0, 0) := by decide +kernel
theorem vcm_27 : xe_look (xc 48) 27 = some (.getfield 29, 3, 4, 2, 853) := by decide +kernel
theorem vcm_30 : xe_look (xc 48) 30 = some (.iconst 1, 1, 0, 0, 0) := by decide +kernel
theorem vcm_31 : xe_look (xc 48) 31 = some (.iadd, 1, 0, 0, 0) := by decide +kernel
theorem vcm_32 : xe_look (xc 48) 32 = some (.putfield 29, 3, 4, 2, 853) := by decide +kernel
theorem vcm_35 : xe_look (xc 48) 35 = some (.aload_n 0, 1, 0, 0, 0) := by decide +kernel
theorem vcm_36 : xe_look (xc 48) 36 = some (.iload_n 1, 1, 0, 0, 0) := by decide +kernel
theorem vcm_37 : xe_look (xc 48) 37 = some (.invokevirtual 71, 3, 0, 54, 864) := by decide +kernel
theorem vcm_40 : xe_look (xc 48) 40 = some (.aload_n 0, 1, 0, 0, 0) := by decide +kernel
theorem vcm_41 : xe_look (xc 48) 41 = some (.getfield 15, 3, 4, 4, 856) := by decide +kernel
theorem vcm_44 : xe_look (xc 48) 44 = some (.iload_n 2, 1, 0, 0, 0) := by decide +kernel
theorem vcm_45 : xe_look (xc 48) 45 = some (.iconst 0, 1, 0, 0, 0) := by decide +kernel
theorem vcm_46 : xe_look (xc 48) 46 = some (.invokevirtual 86, 3, 0, 33, 869) := by decide +kernel
theorem vcm_49 : xe_look (xc 48) 49 = some (.pop, 1, 0, 0, 0) := by decide +kernel
theorem vcm_50 : xe_look (xc 48) 50 = some (.return_, 1, 0, 0, 0) := by decide +kernel
theorem vco_0 : xe_look (xc 49) 0 = some (.aload_n 0, 1, 0, 0, 0) := by decide +kernel
theorem vco_1 : xe_look (xc 49) 1 = some (.iload_n 1, 1, 0, 0, 0) := by decide +kernel
theorem vco_2 : xe_look (xc 49) 2 = some (.invokevirtual 83, 3, 0, 52, 870) := by decide +kernel
theorem vco_5 : xe_look (xc 49) 5 = some (.iconst 0, 1, 0, 0, 0) := by decide +kernel
theorem vco_6 : xe_look (xc 49) 6 = some (.istore_n 2, 1, 0, 0, 0) := by decide +kernel
theorem vco_7 : xe_look (xc 49) 7 = some (.iload_n 2, 1, 0, 0, 0) := by decide +kernel
theorem vco_8 : xe_look (xc 49) 8 = some (.sipush 240, 3, 0, 0, 0) := by decide +kernel
theorem vco_11 : xe_look (xc 49) 11 = some (.if_icmp .ge 59, 3, 0, 0, 0) := by decide +kernel
theorem vco_14 : xe_look (xc 49) 14 = some (.aload_n 0, 1, 0, 0, 0) := by decide +kernel
theorem vco_15 : xe_look (xc 49) 15 = some (.getfield 32, 3, 4, 3, 850) := by decide +kernel
theorem vco_18 : xe_look (xc 49) 18 = some (.ifCond .ne 52, 3, 0, 0, 0) := by decide +kernel
theorem vco_21 : xe_look (xc 49) 21 = some (.aload_n 0, 1, 0, 0, 0) := by decide +kernel
theorem vco_22 : xe_look (xc 49) 22 = some (.invokevirtual 50, 3, 0, 56, 851) := by decide +kernel
theorem vco_25 : xe_look (xc 49) 25 = some (.bipush 124, 2, 0, 0, 0) := by decide +kernel
theorem vco_27 : xe_look (xc 49) 27 = some (.if_icmp .ne 43, 3, 0, 0, 0) := by decide +kernel
theorem vco_30 : xe_look (xc 49) 30 = some (.aload_n 0, 1, 0, 0, 0) := by decide +kernel
theorem vco_31 : xe_look (xc 49) 31 = some (.dup, 1, 0, 0, 0) := by decide +kernel
theorem vco_32 : xe_look (xc 49) 32 = some (.getfield 29, 3, 4, 2, 853) := by decide +kernel
theorem vco_35 : xe_look (xc 49) 35 = some (.iconst 1, 1, 0, 0, 0) := by decide +kernel
theorem vco_36 : xe_look (xc 49) 36 = some (.iadd, 1, 0, 0, 0) := by decide +kernel
theorem vco_37 : xe_look (xc 49) 37 = some (.putfield 29, 3, 4, 2, 853) := by decide +kernel
theorem vco_40 : xe_look (xc 49) 40 = some (.aload_n 0, 1, 0, 0, 0) := by decide +kernel
theorem vco_41 : xe_look (xc 49) 41 = some (.getfield 15, 3, 4, 4, 856) := by decide +kernel
theorem vco_44 : xe_look (xc 49) 44 = some (.bipush 12, 2, 0, 0, 0) := by decide +kernel
theorem vco_46 : xe_look (xc 49) 46 = some (.iconst 0, 1, 0, 0, 0) := by decide +kernel
theorem vco_47 : xe_look (xc 49) 47 = some (.invokevirtual 86, 3, 0, 33, 869) := by decide +kernel
theorem vco_50 : xe_look (xc 49) 50 = some (.istore_n 3, 1, 0, 0, 0) := by decide +kernel
theorem vco_51 : xe_look (xc 49) 51 = some (.aload_n 0, 1, 0, 0, 0) := by decide +kernel
theorem vco_52 : xe_look (xc 49) 52 = some (.iload_n 1, 1, 0, 0, 0) := by decide +kernel
theorem vco_53 : xe_look (xc 49) 53 = some (.invokevirtual 83, 3, 0, 52, 870) := by decide +kernel
theorem vco_56 : xe_look (xc 49) 56 = some (.aload_n 0, 1, 0, 0, 0) := by decide +kernel
theorem vco_57 : xe_look (xc 49) 57 = some (.getfield 15, 3, 4, 4, 856) := by decide +kernel
theorem vco_60 : xe_look (xc 49) 60 = some (.iload_n 3, 1, 0, 0, 0) := by decide +kernel
theorem vco_61 : xe_look (xc 49) 61 = some (.invokevirtual 89, 3, 0, 36, 871) := by decide +kernel
theorem vco_64 : xe_look (xc 49) 64 = some (.iinc 2 1, 3, 0, 0, 0) := by decide +kernel
theorem vco_67 : xe_look (xc 49) 67 = some (.goto (-60), 3, 0, 0, 0) := by decide +kernel
theorem vco_70 : xe_look (xc 49) 70 = some (.return_, 1, 0, 0, 0) := by decide +kernel
theorem vfa_0 : xe_look (xc 50) 0 = some (.aload_n 0, 1, 0, 0, 0) := by decide +kernel
theorem vfa_1 : xe_look (xc 50) 1 = some (.getfield 32, 3, 4, 3, 850) := by decide +kernel
theorem vfa_4 : xe_look (xc 50) 4 = some (.ifCond .eq 4, 3, 0, 0, 0) := by decide +kernel
theorem vfa_8 : xe_look (xc 50) 8 = some (.aload_n 0, 1, 0, 0, 0) := by decide +kernel
theorem vfa_9 : xe_look (xc 50) 9 = some (.invokevirtual 50, 3, 0, 56, 851) := by decide +kernel
theorem vfa_12 : xe_look (xc 50) 12 = some (.istore_n 2, 1, 0, 0, 0) := by decide +kernel
theorem vfa_13 : xe_look (xc 50) 13 = some (.iload_n 2, 1, 0, 0, 0) := by decide +kernel
theorem vfa_14 : xe_look (xc 50) 14 = some (.iconst (-1), 1, 0, 0, 0) := by decide +kernel
theorem vfa_15 : xe_look (xc 50) 15 = some (.if_icmp .ne 7, 3, 0, 0, 0) := by decide +kernel
theorem vfa_18 : xe_look (xc 50) 18 = some (.iconst (-1), 1, 0, 0, 0) := by decide +kernel
theorem vfa_19 : xe_look (xc 50) 19 = some (.goto 10, 3, 0, 0, 0) := by decide +kernel
theorem vfa_22 : xe_look (xc 50) 22 = some (.ldc 117, 2, 1, 2, 0) := by decide +kernel
theorem vfa_24 : xe_look (xc 50) 24 = some (.iload_n 2, 1, 0, 0, 0) := by decide +kernel
theorem vfa_25 : xe_look (xc 50) 25 = some (.i2c, 1, 0, 0, 0) := by decide +kernel
theorem vfa_26 : xe_look (xc 50) 26 = some (.invokevirtual 58, 3, 6, 0, 224) := by decide +kernel
theorem vfa_29 : xe_look (xc 50) 29 = some (.istore_n 3, 1, 0, 0, 0) := by decide +kernel
theorem vfa_30 : xe_look (xc 50) 30 = some (.iload_n 2, 1, 0, 0, 0) := by decide +kernel
theorem vfa_31 : xe_look (xc 50) 31 = some (.bipush 91, 2, 0, 0, 0) := by decide +kernel
theorem vfa_33 : xe_look (xc 50) 33 = some (.if_icmp .ne 27, 3, 0, 0, 0) := by decide +kernel
theorem vfa_36 : xe_look (xc 50) 36 = some (.aload_n 0, 1, 0, 0, 0) := by decide +kernel
theorem vfa_37 : xe_look (xc 50) 37 = some (.iload_n 1, 1, 0, 0, 0) := by decide +kernel
theorem vfa_38 : xe_look (xc 50) 38 = some (.invokevirtual 95, 3, 0, 44, 872) := by decide +kernel
theorem vfa_41 : xe_look (xc 50) 41 = some (.ifCond .eq 69, 3, 0, 0, 0) := by decide +kernel
theorem vfa_44 : xe_look (xc 50) 44 = some (.aload_n 0, 1, 0, 0, 0) := by decide +kernel
theorem vfa_45 : xe_look (xc 50) 45 = some (.iload_n 1, 1, 0, 0, 0) := by decide +kernel
theorem vfa_46 : xe_look (xc 50) 46 = some (.iconst 1, 1, 0, 0, 0) := by decide +kernel
theorem vfa_47 : xe_look (xc 50) 47 = some (.iadd, 1, 0, 0, 0) := by decide +kernel
theorem vfa_48 : xe_look (xc 50) 48 = some (.invokevirtual 71, 3, 0, 54, 864) := by decide +kernel
theorem vfa_51 : xe_look (xc 50) 51 = some (.aload_n 0, 1, 0, 0, 0) := by decide +kernel
theorem vfa_52 : xe_look (xc 50) 52 = some (.bipush 93, 2, 0, 0, 0) := by decide +kernel
theorem vfa_54 : xe_look (xc 50) 54 = some (.invokevirtual 43, 3, 0, 41, 861) := by decide +kernel
theorem vfa_57 : xe_look (xc 50) 57 = some (.goto 53, 3, 0, 0, 0) := by decide +kernel
theorem vfa_60 : xe_look (xc 50) 60 = some (.iload_n 2, 1, 0, 0, 0) := by decide +kernel
theorem vfa_61 : xe_look (xc 50) 61 = some (.bipush 48, 2, 0, 0, 0) := by decide +kernel
theorem vfa_63 : xe_look (xc 50) 63 = some (.bipush 57, 2, 0, 0, 0) := by decide +kernel
theorem vfa_65 : xe_look (xc 50) 65 = some (.invokestatic 119, 3, 1, 124, 3) := by decide +kernel
theorem vfa_68 : xe_look (xc 50) 68 = some (.ifCond .eq 10, 3, 0, 0, 0) := by decide +kernel
theorem vfa_71 : xe_look (xc 50) 71 = some (.aload_n 0, 1, 0, 0, 0) := by decide +kernel
theorem vfa_72 : xe_look (xc 50) 72 = some (.invokevirtual 123, 3, 0, 51, 873) := by decide +kernel
theorem vfa_75 : xe_look (xc 50) 75 = some (.goto 35, 3, 0, 0, 0) := by decide +kernel
theorem vfa_78 : xe_look (xc 50) 78 = some (.iload_n 3, 1, 0, 0, 0) := by decide +kernel
theorem vfa_79 : xe_look (xc 50) 79 = some (.ifCond .lt 26, 3, 0, 0, 0) := by decide +kernel
theorem vfa_82 : xe_look (xc 50) 82 = some (.aload_n 0, 1, 0, 0, 0) := by decide +kernel
theorem vfa_83 : xe_look (xc 50) 83 = some (.dup, 1, 0, 0, 0) := by decide +kernel
theorem vfa_84 : xe_look (xc 50) 84 = some (.getfield 29, 3, 4, 2, 853) := by decide +kernel
theorem vfa_87 : xe_look (xc 50) 87 = some (.iconst 1, 1, 0, 0, 0) := by decide +kernel
theorem vfa_88 : xe_look (xc 50) 88 = some (.iadd, 1, 0, 0, 0) := by decide +kernel
theorem vfa_89 : xe_look (xc 50) 89 = some (.putfield 29, 3, 4, 2, 853) := by decide +kernel
theorem vfa_92 : xe_look (xc 50) 92 = some (.aload_n 0, 1, 0, 0, 0) := by decide +kernel
theorem vfa_93 : xe_look (xc 50) 93 = some (.getfield 15, 3, 4, 4, 856) := by decide +kernel
theorem vfa_96 : xe_look (xc 50) 96 = some (.iconst 1, 1, 0, 0, 0) := by decide +kernel
theorem vfa_97 : xe_look (xc 50) 97 = some (.iload_n 3, 1, 0, 0, 0) := by decide +kernel
theorem vfa_98 : xe_look (xc 50) 98 = some (.invokevirtual 86, 3, 0, 33, 869) := by decide +kernel
theorem vfa_101 : xe_look (xc 50) 101 = some (.pop, 1, 0, 0, 0) := by decide +kernel
theorem vfa_102 : xe_look (xc 50) 102 = some (.goto 8, 3, 0, 0, 0) := by decide +kernel
theorem vfa_105 : xe_look (xc 50) 105 = some (.aload_n 0, 1, 0, 0, 0) := by decide +kernel
theorem vfa_106 : xe_look (xc 50) 106 = some (.iconst 1, 1, 0, 0, 0) := by decide +kernel
theorem vfa_107 : xe_look (xc 50) 107 = some (.invokevirtual 64, 3, 0, 42, 852) := by decide +kernel
theorem vfa_110 : xe_look (xc 50) 110 = some (.return_, 1, 0, 0, 0) := by decide +kernel
theorem vpa_0 : xe_look (xc 52) 0 = some (.aload_n 0, 1, 0, 0, 0) := by decide +kernel
theorem vpa_1 : xe_look (xc 52) 1 = some (.iload_n 1, 1, 0, 0, 0) := by decide +kernel
theorem vpa_2 : xe_look (xc 52) 2 = some (.invokevirtual 92, 3, 0, 53, 874) := by decide +kernel
theorem vpa_5 : xe_look (xc 52) 5 = some (.iconst 0, 1, 0, 0, 0) := by decide +kernel
theorem vpa_6 : xe_look (xc 52) 6 = some (.istore_n 2, 1, 0, 0, 0) := by decide +kernel
theorem vpa_7 : xe_look (xc 52) 7 = some (.iload_n 2, 1, 0, 0, 0) := by decide +kernel
theorem vpa_8 : xe_look (xc 52) 8 = some (.sipush 240, 3, 0, 0, 0) := by decide +kernel
theorem vpa_11 : xe_look (xc 52) 11 = some (.if_icmp .ge 59, 3, 0, 0, 0) := by decide +kernel
theorem vpa_14 : xe_look (xc 52) 14 = some (.aload_n 0, 1, 0, 0, 0) := by decide +kernel
theorem vpa_15 : xe_look (xc 52) 15 = some (.getfield 32, 3, 4, 3, 850) := by decide +kernel
theorem vpa_18 : xe_look (xc 52) 18 = some (.ifCond .ne 52, 3, 0, 0, 0) := by decide +kernel
theorem vpa_21 : xe_look (xc 52) 21 = some (.aload_n 0, 1, 0, 0, 0) := by decide +kernel
theorem vpa_22 : xe_look (xc 52) 22 = some (.invokevirtual 50, 3, 0, 56, 851) := by decide +kernel
theorem vpa_25 : xe_look (xc 52) 25 = some (.bipush 38, 2, 0, 0, 0) := by decide +kernel
theorem vpa_27 : xe_look (xc 52) 27 = some (.if_icmp .ne 43, 3, 0, 0, 0) := by decide +kernel
theorem vpa_30 : xe_look (xc 52) 30 = some (.aload_n 0, 1, 0, 0, 0) := by decide +kernel
theorem vpa_31 : xe_look (xc 52) 31 = some (.dup, 1, 0, 0, 0) := by decide +kernel
theorem vpa_32 : xe_look (xc 52) 32 = some (.getfield 29, 3, 4, 2, 853) := by decide +kernel
theorem vpa_35 : xe_look (xc 52) 35 = some (.iconst 1, 1, 0, 0, 0) := by decide +kernel
theorem vpa_36 : xe_look (xc 52) 36 = some (.iadd, 1, 0, 0, 0) := by decide +kernel
theorem vpa_37 : xe_look (xc 52) 37 = some (.putfield 29, 3, 4, 2, 853) := by decide +kernel
theorem vpa_40 : xe_look (xc 52) 40 = some (.aload_n 0, 1, 0, 0, 0) := by decide +kernel
theorem vpa_41 : xe_look (xc 52) 41 = some (.getfield 15, 3, 4, 4, 856) := by decide +kernel
theorem vpa_44 : xe_look (xc 52) 44 = some (.bipush 11, 2, 0, 0, 0) := by decide +kernel
theorem vpa_46 : xe_look (xc 52) 46 = some (.iconst 0, 1, 0, 0, 0) := by decide +kernel
theorem vpa_47 : xe_look (xc 52) 47 = some (.invokevirtual 86, 3, 0, 33, 869) := by decide +kernel
theorem vpa_50 : xe_look (xc 52) 50 = some (.istore_n 3, 1, 0, 0, 0) := by decide +kernel
theorem vpa_51 : xe_look (xc 52) 51 = some (.aload_n 0, 1, 0, 0, 0) := by decide +kernel
theorem vpa_52 : xe_look (xc 52) 52 = some (.iload_n 1, 1, 0, 0, 0) := by decide +kernel
theorem vpa_53 : xe_look (xc 52) 53 = some (.invokevirtual 92, 3, 0, 53, 874) := by decide +kernel
theorem vpa_56 : xe_look (xc 52) 56 = some (.aload_n 0, 1, 0, 0, 0) := by decide +kernel
theorem vpa_57 : xe_look (xc 52) 57 = some (.getfield 15, 3, 4, 4, 856) := by decide +kernel
theorem vpa_60 : xe_look (xc 52) 60 = some (.iload_n 3, 1, 0, 0, 0) := by decide +kernel
theorem vpa_61 : xe_look (xc 52) 61 = some (.invokevirtual 89, 3, 0, 36, 871) := by decide +kernel
theorem vpa_64 : xe_look (xc 52) 64 = some (.iinc 2 1, 3, 0, 0, 0) := by decide +kernel
theorem vpa_67 : xe_look (xc 52) 67 = some (.goto (-60), 3, 0, 0, 0) := by decide +kernel
theorem vpa_70 : xe_look (xc 52) 70 = some (.return_, 1, 0, 0, 0) := by decide +kernel
theorem vpi_0 : xe_look (xc 53) 0 = some (.aload_n 0, 1, 0, 0, 0) := by decide +kernel
theorem vpi_1 : xe_look (xc 53) 1 = some (.getfield 32, 3, 4, 3, 850) := by decide +kernel
theorem vpi_4 : xe_look (xc 53) 4 = some (.ifCond .eq 4, 3, 0, 0, 0) := by decide +kernel
theorem vpi_8 : xe_look (xc 53) 8 = some (.aload_n 0, 1, 0, 0, 0) := by decide +kernel
theorem vpi_9 : xe_look (xc 53) 9 = some (.invokevirtual 50, 3, 0, 56, 851) := by decide +kernel
theorem vpi_12 : xe_look (xc 53) 12 = some (.bipush 33, 2, 0, 0, 0) := by decide +kernel
theorem vpi_14 : xe_look (xc 53) 14 = some (.if_icmp .ne 32, 3, 0, 0, 0) := by decide +kernel
theorem vpi_17 : xe_look (xc 53) 17 = some (.aload_n 0, 1, 0, 0, 0) := by decide +kernel
theorem vpi_18 : xe_look (xc 53) 18 = some (.iload_n 1, 1, 0, 0, 0) := by decide +kernel
theorem vpi_19 : xe_look (xc 53) 19 = some (.invokevirtual 95, 3, 0, 44, 872) := by decide +kernel
theorem vpi_22 : xe_look (xc 53) 22 = some (.ifCond .eq 62, 3, 0, 0, 0) := by decide +kernel
theorem vpi_25 : xe_look (xc 53) 25 = some (.aload_n 0, 1, 0, 0, 0) := by decide +kernel
theorem vpi_26 : xe_look (xc 53) 26 = some (.iload_n 1, 1, 0, 0, 0) := by decide +kernel
theorem vpi_27 : xe_look (xc 53) 27 = some (.iconst 1, 1, 0, 0, 0) := by decide +kernel
theorem vpi_28 : xe_look (xc 53) 28 = some (.iadd, 1, 0, 0, 0) := by decide +kernel
theorem vpi_29 : xe_look (xc 53) 29 = some (.invokevirtual 92, 3, 0, 53, 874) := by decide +kernel
theorem vpi_32 : xe_look (xc 53) 32 = some (.aload_n 0, 1, 0, 0, 0) := by decide +kernel
theorem vpi_33 : xe_look (xc 53) 33 = some (.getfield 15, 3, 4, 4, 856) := by decide +kernel
theorem vpi_36 : xe_look (xc 53) 36 = some (.bipush 10, 2, 0, 0, 0) := by decide +kernel
theorem vpi_38 : xe_look (xc 53) 38 = some (.iconst 0, 1, 0, 0, 0) := by decide +kernel
theorem vpi_39 : xe_look (xc 53) 39 = some (.invokevirtual 86, 3, 0, 33, 869) := by decide +kernel
theorem vpi_42 : xe_look (xc 53) 42 = some (.pop, 1, 0, 0, 0) := by decide +kernel
theorem vpi_43 : xe_look (xc 53) 43 = some (.goto 41, 3, 0, 0, 0) := by decide +kernel
theorem vpi_46 : xe_look (xc 53) 46 = some (.aload_n 0, 1, 0, 0, 0) := by decide +kernel
theorem vpi_47 : xe_look (xc 53) 47 = some (.invokevirtual 50, 3, 0, 56, 851) := by decide +kernel
theorem vpi_50 : xe_look (xc 53) 50 = some (.bipush 40, 2, 0, 0, 0) := by decide +kernel
theorem vpi_52 : xe_look (xc 53) 52 = some (.if_icmp .ne 27, 3, 0, 0, 0) := by decide +kernel
theorem vpi_55 : xe_look (xc 53) 55 = some (.aload_n 0, 1, 0, 0, 0) := by decide +kernel
theorem vpi_56 : xe_look (xc 53) 56 = some (.iload_n 1, 1, 0, 0, 0) := by decide +kernel
theorem vpi_57 : xe_look (xc 53) 57 = some (.invokevirtual 95, 3, 0, 44, 872) := by decide +kernel
theorem vpi_60 : xe_look (xc 53) 60 = some (.ifCond .eq 24, 3, 0, 0, 0) := by decide +kernel
theorem vpi_63 : xe_look (xc 53) 63 = some (.aload_n 0, 1, 0, 0, 0) := by decide +kernel
theorem vpi_64 : xe_look (xc 53) 64 = some (.iload_n 1, 1, 0, 0, 0) := by decide +kernel
theorem vpi_65 : xe_look (xc 53) 65 = some (.iconst 1, 1, 0, 0, 0) := by decide +kernel
theorem vpi_66 : xe_look (xc 53) 66 = some (.iadd, 1, 0, 0, 0) := by decide +kernel
theorem vpi_67 : xe_look (xc 53) 67 = some (.invokevirtual 77, 3, 0, 49, 866) := by decide +kernel
theorem vpi_70 : xe_look (xc 53) 70 = some (.aload_n 0, 1, 0, 0, 0) := by decide +kernel
theorem vpi_71 : xe_look (xc 53) 71 = some (.bipush 41, 2, 0, 0, 0) := by decide +kernel
theorem vpi_73 : xe_look (xc 53) 73 = some (.invokevirtual 43, 3, 0, 41, 861) := by decide +kernel
theorem vpi_76 : xe_look (xc 53) 76 = some (.goto 8, 3, 0, 0, 0) := by decide +kernel
theorem vpi_79 : xe_look (xc 53) 79 = some (.aload_n 0, 1, 0, 0, 0) := by decide +kernel
theorem vpi_80 : xe_look (xc 53) 80 = some (.iload_n 1, 1, 0, 0, 0) := by decide +kernel
theorem vpi_81 : xe_look (xc 53) 81 = some (.invokevirtual 98, 3, 0, 48, 875) := by decide +kernel
theorem vpi_84 : xe_look (xc 53) 84 = some (.return_, 1, 0, 0, 0) := by decide +kernel
theorem vsu_0 : xe_look (xc 54) 0 = some (.aload_n 0, 1, 0, 0, 0) := by decide +kernel
theorem vsu_1 : xe_look (xc 54) 1 = some (.iload_n 1, 1, 0, 0, 0) := by decide +kernel
theorem vsu_2 : xe_look (xc 54) 2 = some (.invokevirtual 107, 3, 0, 55, 876) := by decide +kernel
theorem vsu_5 : xe_look (xc 54) 5 = some (.aload_n 0, 1, 0, 0, 0) := by decide +kernel
theorem vsu_6 : xe_look (xc 54) 6 = some (.ldc 110, 2, 1, 3, 0) := by decide +kernel
theorem vsu_8 : xe_look (xc 54) 8 = some (.iconst 2, 1, 0, 0, 0) := by decide +kernel
theorem vsu_9 : xe_look (xc 54) 9 = some (.invokevirtual 103, 3, 0, 45, 868) := by decide +kernel
theorem vsu_12 : xe_look (xc 54) 12 = some (.istore_n 2, 1, 0, 0, 0) := by decide +kernel
theorem vsu_13 : xe_look (xc 54) 13 = some (.iconst 0, 1, 0, 0, 0) := by decide +kernel
theorem vsu_14 : xe_look (xc 54) 14 = some (.istore_n 3, 1, 0, 0, 0) := by decide +kernel
theorem vsu_15 : xe_look (xc 54) 15 = some (.iload_n 3, 1, 0, 0, 0) := by decide +kernel
theorem vsu_16 : xe_look (xc 54) 16 = some (.sipush 240, 3, 0, 0, 0) := by decide +kernel
theorem vsu_19 : xe_look (xc 54) 19 = some (.if_icmp .ge 47, 3, 0, 0, 0) := by decide +kernel
theorem vsu_22 : xe_look (xc 54) 22 = some (.iload_n 2, 1, 0, 0, 0) := by decide +kernel
theorem vsu_23 : xe_look (xc 54) 23 = some (.iconst (-1), 1, 0, 0, 0) := by decide +kernel
theorem vsu_24 : xe_look (xc 54) 24 = some (.if_icmp .eq 42, 3, 0, 0, 0) := by decide +kernel
theorem vsu_27 : xe_look (xc 54) 27 = some (.aload_n 0, 1, 0, 0, 0) := by decide +kernel
theorem vsu_28 : xe_look (xc 54) 28 = some (.dup, 1, 0, 0, 0) := by decide +kernel
theorem vsu_29 : xe_look (xc 54) 29 = some (.getfield 29, 3, 4, 2, 853) := by decide +kernel
theorem vsu_32 : xe_look (xc 54) 32 = some (.iconst 1, 1, 0, 0, 0) := by decide +kernel
theorem vsu_33 : xe_look (xc 54) 33 = some (.iadd, 1, 0, 0, 0) := by decide +kernel
theorem vsu_34 : xe_look (xc 54) 34 = some (.putfield 29, 3, 4, 2, 853) := by decide +kernel
theorem vsu_37 : xe_look (xc 54) 37 = some (.aload_n 0, 1, 0, 0, 0) := by decide +kernel
theorem vsu_38 : xe_look (xc 54) 38 = some (.iload_n 1, 1, 0, 0, 0) := by decide +kernel
theorem vsu_39 : xe_look (xc 54) 39 = some (.invokevirtual 107, 3, 0, 55, 876) := by decide +kernel
theorem vsu_42 : xe_look (xc 54) 42 = some (.aload_n 0, 1, 0, 0, 0) := by decide +kernel
theorem vsu_43 : xe_look (xc 54) 43 = some (.getfield 15, 3, 4, 4, 856) := by decide +kernel
theorem vsu_46 : xe_look (xc 54) 46 = some (.iload_n 2, 1, 0, 0, 0) := by decide +kernel
theorem vsu_47 : xe_look (xc 54) 47 = some (.iconst 0, 1, 0, 0, 0) := by decide +kernel
theorem vsu_48 : xe_look (xc 54) 48 = some (.invokevirtual 86, 3, 0, 33, 869) := by decide +kernel
theorem vsu_51 : xe_look (xc 54) 51 = some (.pop, 1, 0, 0, 0) := by decide +kernel
theorem vsu_52 : xe_look (xc 54) 52 = some (.aload_n 0, 1, 0, 0, 0) := by decide +kernel
theorem vsu_53 : xe_look (xc 54) 53 = some (.ldc 110, 2, 1, 3, 0) := by decide +kernel
theorem vsu_55 : xe_look (xc 54) 55 = some (.iconst 2, 1, 0, 0, 0) := by decide +kernel
theorem vsu_56 : xe_look (xc 54) 56 = some (.invokevirtual 103, 3, 0, 45, 868) := by decide +kernel
theorem vsu_59 : xe_look (xc 54) 59 = some (.istore_n 2, 1, 0, 0, 0) := by decide +kernel
theorem vsu_60 : xe_look (xc 54) 60 = some (.iinc 3 1, 3, 0, 0, 0) := by decide +kernel
theorem vsu_63 : xe_look (xc 54) 63 = some (.goto (-48), 3, 0, 0, 0) := by decide +kernel
theorem vsu_66 : xe_look (xc 54) 66 = some (.return_, 1, 0, 0, 0) := by decide +kernel
theorem vte_0 : xe_look (xc 55) 0 = some (.aload_n 0, 1, 0, 0, 0) := by decide +kernel
theorem vte_1 : xe_look (xc 55) 1 = some (.iload_n 1, 1, 0, 0, 0) := by decide +kernel
theorem vte_2 : xe_look (xc 55) 2 = some (.invokevirtual 112, 3, 0, 50, 877) := by decide +kernel
theorem vte_5 : xe_look (xc 55) 5 = some (.aload_n 0, 1, 0, 0, 0) := by decide +kernel
theorem vte_6 : xe_look (xc 55) 6 = some (.ldc 115, 2, 1, 4, 0) := by decide +kernel
theorem vte_8 : xe_look (xc 55) 8 = some (.iconst 4, 1, 0, 0, 0) := by decide +kernel
theorem vte_9 : xe_look (xc 55) 9 = some (.invokevirtual 103, 3, 0, 45, 868) := by decide +kernel
theorem vte_12 : xe_look (xc 55) 12 = some (.istore_n 2, 1, 0, 0, 0) := by decide +kernel
theorem vte_13 : xe_look (xc 55) 13 = some (.iconst 0, 1, 0, 0, 0) := by decide +kernel
theorem vte_14 : xe_look (xc 55) 14 = some (.istore_n 3, 1, 0, 0, 0) := by decide +kernel
theorem vte_15 : xe_look (xc 55) 15 = some (.iload_n 3, 1, 0, 0, 0) := by decide +kernel
theorem vte_16 : xe_look (xc 55) 16 = some (.sipush 240, 3, 0, 0, 0) := by decide +kernel
theorem vte_19 : xe_look (xc 55) 19 = some (.if_icmp .ge 47, 3, 0, 0, 0) := by decide +kernel
theorem vte_22 : xe_look (xc 55) 22 = some (.iload_n 2, 1, 0, 0, 0) := by decide +kernel
theorem vte_23 : xe_look (xc 55) 23 = some (.iconst (-1), 1, 0, 0, 0) := by decide +kernel
theorem vte_24 : xe_look (xc 55) 24 = some (.if_icmp .eq 42, 3, 0, 0, 0) := by decide +kernel
theorem vte_27 : xe_look (xc 55) 27 = some (.aload_n 0, 1, 0, 0, 0) := by decide +kernel
theorem vte_28 : xe_look (xc 55) 28 = some (.dup, 1, 0, 0, 0) := by decide +kernel
theorem vte_29 : xe_look (xc 55) 29 = some (.getfield 29, 3, 4, 2, 853) := by decide +kernel
theorem vte_32 : xe_look (xc 55) 32 = some (.iconst 1, 1, 0, 0, 0) := by decide +kernel
theorem vte_33 : xe_look (xc 55) 33 = some (.iadd, 1, 0, 0, 0) := by decide +kernel
theorem vte_34 : xe_look (xc 55) 34 = some (.putfield 29, 3, 4, 2, 853) := by decide +kernel
theorem vte_37 : xe_look (xc 55) 37 = some (.aload_n 0, 1, 0, 0, 0) := by decide +kernel
theorem vte_38 : xe_look (xc 55) 38 = some (.iload_n 1, 1, 0, 0, 0) := by decide +kernel
theorem vte_39 : xe_look (xc 55) 39 = some (.invokevirtual 112, 3, 0, 50, 877) := by decide +kernel
theorem vte_42 : xe_look (xc 55) 42 = some (.aload_n 0, 1, 0, 0, 0) := by decide +kernel
theorem vte_43 : xe_look (xc 55) 43 = some (.getfield 15, 3, 4, 4, 856) := by decide +kernel
theorem vte_46 : xe_look (xc 55) 46 = some (.iload_n 2, 1, 0, 0, 0) := by decide +kernel
theorem vte_47 : xe_look (xc 55) 47 = some (.iconst 0, 1, 0, 0, 0) := by decide +kernel
theorem vte_48 : xe_look (xc 55) 48 = some (.invokevirtual 86, 3, 0, 33, 869) := by decide +kernel
theorem vte_51 : xe_look (xc 55) 51 = some (.pop, 1, 0, 0, 0) := by decide +kernel
theorem vte_52 : xe_look (xc 55) 52 = some (.aload_n 0, 1, 0, 0, 0) := by decide +kernel
theorem vte_53 : xe_look (xc 55) 53 = some (.ldc 115, 2, 1, 4, 0) := by decide +kernel
theorem vte_55 : xe_look (xc 55) 55 = some (.iconst 4, 1, 0, 0, 0) := by decide +kernel
theorem vte_56 : xe_look (xc 55) 56 = some (.invokevirtual 103, 3, 0, 45, 868) := by decide +kernel
theorem vte_59 : xe_look (xc 55) 59 = some (.istore_n 2, 1, 0, 0, 0) := by decide +kernel
theorem vte_60 : xe_look (xc 55) 60 = some (.iinc 3 1, 3, 0, 0, 0) := by decide +kernel
theorem vte_63 : xe_look (xc 55) 63 = some (.goto (-48), 3, 0, 0, 0) := by decide +kernel
theorem vte_66 : xe_look (xc 55) 66 = some (.return_, 1, 0, 0, 0) := by decide +kernel
def lQ (n p k p1 k1 : Int) : Prop := 0 ≤ p ∧ p < p1 ∧ p1 ≤ n ∧ 0 ≤ k ∧ k < k1 ∧ k1 - k ≤ p1 - p ∧ k ≤ p
def lQl (n p k p1 k1 : Int) : Prop := 0 ≤ p ∧ p ≤ p1 ∧ p1 ≤ n ∧ 0 ≤ k ∧ k ≤ k1 ∧ k1 - k ≤ p1 - p ∧ k ≤ p
/-- a method of the reader, by what it comes to -/
def lSt (K : Nat) (g0 : pH) (B : tC) (n : Int) (μ kd nd δ : Nat) : Prop := ∀ (d : Nat), nd ≤ d → ∀ (g : pH) (p k c : Int) (o v le st co en : tC), lS K g0 g p 0 k c o v le st co en → lP n p k → ∀ (P : Option pv × pH → Prop), (∀ (g1 : pH) (f p1 k1 : Int) (o1 v1 : tC), lS K g0 g1 p1 f k1 c o1 v1 le st co en → f < 0 → lI (tH B n) n kd δ p k o v (.inl f) → P (none, g1)) → (∀ (g1 : pH) (p1 k1 : Int) (o1 v1 : tC), lS K g0 g1 p1 0 k1 c o1 v1 le st co en → lQ n p k p1 k1 → lI (tH B n) n kd δ p k o v (.inr (p1, k1, o1, v1)) → P (none, g1)) → ∀ (lv : List (Nat × pv)), px_lg lv 0 = some (pvR 154) → px_lg lv 1 = some (oI (δ : Int)) → t_X d μ 0 lv [] g P
set_option maxHeartbeats 4000000 in
theorem vFa {K : Nat} (hK : lK K) {g0 : pH} {B : tC} {n : Int} (hB : lB K g0 B n) {δ : Nat} (hδ : δ ≤ 6) (hSu : δ < 6 → lSt K g0 B n 54 4 (12 + 3 * (5 - δ)) (δ + 1)) : lSt K g0 B n 50 0 (10 + 3 * (6 - δ)) δ := by
  intro d hd g p k c o v le st co en hS hLP P hF hO lv l0 l1
  obtain ⟨hn, hp, hf, hk, hc, hH⟩ := lc_m hB hK hS
  have hP := hLP
  unfold lP at hP
  have w9 := lFa_b (tH B n p)
  refine t_0 vfa_0 rfl (ld_a l0) ?_
  refine t_0 vfa_1 rfl (pq_cv leo_154 rfl (show cF g 154 3 = 0 from S_f hS 1 (Nat.le_of_ble_eq_true rfl))) ?_
  show t_X d 50 4 lv [oI 0] g P
  refine tz_eq vfa_4 (by decide) ⟨by omega, by omega⟩ (fun c1 => ?_) (fun c1 => absurd c1 (by omega))
  show t_X d 50 8 lv [] g P
  refine t_0 vfa_8 rfl (ld_a l0) ?_
  refine t_3 vfa_9 rfl (ar := ([pvR 154], [])) (pcal_w (as := []) rfl rfl rfl leo_154) ⟨by omega, Nat.le_of_ble_eq_true rfl, Nat.le_of_ble_eq_true rfl, rfl⟩ ?_
  refine vsg_run hK hB hS ?_ rfl
  have b2 := hH p (by omega)
  have z2 := tH_n (B := B) (n := n) (p := p)
  show t_X d 50 12 lv [oI (tH B n p)] g P
  refine t_2 vfa_12 rfl (w := (px_s1 lv 2 (oI (tH B n p)), [])) rfl ?_
  replace l0 : px_lg (px_s1 lv 2 (oI (tH B n p))) 0 = some (pvR 154) := s1_ne (by decide) (fun _ => rfl) l0
  replace l1 : px_lg (px_s1 lv 2 (oI (tH B n p))) 1 = some (oI ((δ : Int))) := s1_ne (by decide) (fun _ => rfl) l1
  have l2 : px_lg (px_s1 lv 2 (oI (tH B n p))) 2 = some (oI (tH B n p)) := s1_eq
  generalize px_s1 lv 2 (oI (tH B n p)) = lv3 at l0 l1 l2 ⊢
  show t_X d 50 13 lv3 [] g P
  refine t_0 vfa_13 rfl (ld_i l2) ?_
  refine t_0 vfa_14 rfl rfl ?_
  refine tb_ne vfa_15 (by decide) ⟨by omega, by omega⟩ ⟨by omega, by omega⟩ (fun c4 => ?_) (fun c4 => ?_)
  · show t_X d 50 22 lv3 [] g P
    refine t_0 vfa_22 rfl rfl ?_
    refine t_0 vfa_24 rfl (ld_i l2) ?_
    refine t_0 vfa_25 rfl (pq_i2c ⟨by omega, by omega⟩) ?_
    refine tx_ix 2 (by decide) vfa_26 rfl rfl (by omega) (Nat.le_of_ble_eq_true rfl) ⟨by omega, by omega⟩ ?_
    show t_X d 50 29 lv3 [oI (lFa (tH B n p))] g P
    refine t_2 vfa_29 rfl (w := (px_s1 lv3 3 (oI (lFa (tH B n p))), [])) rfl ?_
    replace l0 : px_lg (px_s1 lv3 3 (oI (lFa (tH B n p)))) 0 = some (pvR 154) := s1_ne (by decide) (fun _ => rfl) l0
    replace l1 : px_lg (px_s1 lv3 3 (oI (lFa (tH B n p)))) 1 = some (oI ((δ : Int))) := s1_ne (by decide) (fun _ => rfl) l1
    replace l2 : px_lg (px_s1 lv3 3 (oI (lFa (tH B n p)))) 2 = some (oI (tH B n p)) := s1_ne (by decide) (fun _ => rfl) l2
    have l3 : px_lg (px_s1 lv3 3 (oI (lFa (tH B n p)))) 3 = some (oI (lFa (tH B n p))) := s1_eq
    generalize px_s1 lv3 3 (oI (lFa (tH B n p))) = lv5 at l0 l1 l2 l3 ⊢
    show t_X d 50 30 lv5 [] g P
    refine t_0 vfa_30 rfl (ld_i l2) ?_
    refine t_0 vfa_31 rfl (pq_b (by decide)) ?_
    refine tb_ne vfa_33 (by decide) ⟨by omega, by omega⟩ ⟨by omega, by omega⟩ (fun c6 => ?_) (fun c6 => ?_)
    · show t_X d 50 60 lv5 [] g P
      refine t_0 vfa_60 rfl (ld_i l2) ?_
      refine t_0 vfa_61 rfl (pq_b (by decide)) ?_
      refine t_0 vfa_63 rfl (pq_b (by decide)) ?_
      refine t_3 vfa_65 rfl (ar := ([oI (tH B n p), oI 48, oI 57], [])) (pcal_s ⟨Or.inr rfl, rfl, Nat.le_of_ble_eq_true rfl⟩) ⟨by omega, Nat.le_of_ble_eq_true rfl, Nat.le_of_ble_eq_true rfl, rfl⟩ ?_
      refine ii_run ⟨by omega, by omega⟩ ⟨by omega, by omega⟩ ⟨by omega, by omega⟩ rfl rfl rfl (fun t7 => ?_) (fun t7 => ?_)
      · show t_X d 50 68 lv5 [oI 1] g P
        refine tz_eq vfa_68 (by decide) ⟨by omega, by omega⟩ (fun c8 => absurd c8 (by omega)) (fun c8 => ?_)
        show t_X d 50 71 lv5 [] g P
        refine t_0 vfa_71 rfl (ld_a l0) ?_
        refine t_3 vfa_72 rfl (ar := ([pvR 154], [])) (pcal_w (as := []) rfl rfl rfl leo_154) ⟨by omega, Nat.le_of_ble_eq_true rfl, Nat.le_of_ble_eq_true rfl, rfl⟩ ?_
        refine vnu_run hK (by omega) hB hS ⟨by omega, by omega, by omega, by omega⟩ (by unfold tDg; omega) (fun g9 f9 q9 hS9 t9 => ?_) (fun g9 x9 q9 hS9 t9 => ?_) rfl
        · replace hS9 : lS K g0 g9 q9 f9 k c o v le st co en := hS9
          show t_X d 50 75 lv5 [] g9 P
          refine t_1 vfa_75 rfl (pb_goto (pc := 75) (by decide)) ?_
          show t_X d 50 110 lv5 [] g9 P
          refine t_5 vfa_110 rfl rfl ?_
          exact hF _ _ _ _ _ _ hS9 (by have := t9.2; omega) (lx_F6 hLP t9)
        · replace hS9 : lS K g0 g9 q9 0 (k + 1) c (updI o k.toNat 0) (updI v k.toNat x9) le st co en := hS9
          show t_X d 50 75 lv5 [] g9 P
          refine t_1 vfa_75 rfl (pb_goto (pc := 75) (by decide)) ?_
          show t_X d 50 110 lv5 [] g9 P
          refine t_5 vfa_110 rfl rfl ?_
          have b9 := lNu_b t9
          have z9 := tH_n (B := B) (n := n) (p := q9 - 1)
          unfold tDg at b9
          exact hO _ _ _ _ _ hS9 ⟨by omega, by omega, by omega, by omega, by omega, by omega, by omega⟩ (lx_F5 hLP t9)
      · show t_X d 50 68 lv5 [oI 0] g P
        refine tz_eq vfa_68 (by decide) ⟨by omega, by omega⟩ (fun c10 => ?_) (fun c10 => absurd c10 (by omega))
        show t_X d 50 78 lv5 [] g P
        refine t_0 vfa_78 rfl (ld_i l3) ?_
        refine tz_lt vfa_79 (by decide) ⟨by omega, by omega⟩ (fun c11 => ?_) (fun c11 => ?_)
        · show t_X d 50 105 lv5 [] g P
          refine t_0 vfa_105 rfl (ld_a l0) ?_
          refine t_0 vfa_106 rfl rfl ?_
          refine t_3 vfa_107 rfl (ar := ([pvR 154, oI 1], [])) (pcal_w (as := [oI 1]) rfl rfl rfl leo_154) ⟨by omega, Nat.le_of_ble_eq_true rfl, Nat.le_of_ble_eq_true rfl, rfl⟩ ?_
          refine vfl_run hK hB hS ⟨by omega, by omega⟩ (fun g12 hS12 => ?_) rfl rfl
          replace hS12 : lS K g0 g12 p (-1000 * 1 - p) k c o v le st co en := hS12
          show t_X d 50 110 lv5 [] g12 P
          refine t_5 vfa_110 rfl rfl ?_
          rw [show -1000 * 1 - p = -1000 - p by omega] at hS12
          exact hF _ _ _ _ _ _ hS12 (by omega) (lx_F8 hLP (by omega) (fun z => by unfold tDg at z; omega) (by omega))
        · show t_X d 50 82 lv5 [] g P
          refine t_0 vfa_82 rfl (ld_a l0) ?_
          refine t_0 vfa_83 rfl rfl ?_
          refine t_0 vfa_84 rfl (pq_cv leo_154 rfl (show cF g 154 2 = p from S_f hS 0 (Nat.le_of_ble_eq_true rfl))) ?_
          show t_X d 50 87 lv5 [oI (p), pvR 154] g P
          refine t_0 vfa_87 rfl rfl ?_
          refine t_0 vfa_88 rfl pq_add ?_
          refine ts_f (n := 0) rfl rfl (lk_f0 hK) vfa_89 rfl leo_154 hS (lk_w0 hK) lgy_154_2 (by decide) ⟨by omega, by omega⟩ (fun g13 hS13 => ?_)
          replace hS13 : lS K g0 g13 (p + 1) 0 k c o v le st co en := hS13
          show t_X d 50 92 lv5 [] g13 P
          refine t_0 vfa_92 rfl (ld_a l0) ?_
          refine t_0 vfa_93 rfl (pq_ro leo_154 rfl (lc_c hB hK hS13)) ?_
          show t_X d 50 96 lv5 [pvR K] g13 P
          refine t_0 vfa_96 rfl rfl ?_
          refine t_0 vfa_97 rfl (ld_i l3) ?_
          refine t_3 vfa_98 rfl (ar := ([pvR K, oI 1, oI (lFa (tH B n p))], [])) (pcal_w (as := [oI (lFa (tH B n p)), oI 1]) rfl rfl rfl (lk_e hK)) ⟨by omega, Nat.le_of_ble_eq_true rfl, Nat.le_of_ble_eq_true rfl, rfl⟩ ?_
          refine vem_run hK hB hS13 ⟨by omega, by omega⟩ ⟨by omega, by omega⟩ (fun _ g14 hS14 => ?_) (fun t14 => absurd t14 (by omega)) rfl rfl rfl
          replace hS14 : lS K g0 g14 (p + 1) 0 (k + 1) c (updI o k.toNat 1) (updI v k.toNat (lFa (tH B n p))) le st co en := hS14
          show t_X d 50 101 lv5 [oI (k)] g14 P
          refine t_0 vfa_101 rfl rfl ?_
          refine t_1 vfa_102 rfl (pb_goto (pc := 102) (by decide)) ?_
          show t_X d 50 110 lv5 [] g14 P
          refine t_5 vfa_110 rfl rfl ?_
          exact hO _ _ _ _ _ hS14 ⟨by omega, by omega, by omega, by omega, by omega, by omega, by omega⟩ (lx_F7 hLP (by omega))
    · show t_X d 50 36 lv5 [] g P
      refine t_0 vfa_36 rfl (ld_a l0) ?_
      refine t_0 vfa_37 rfl (ld_i l1) ?_
      refine t_3 vfa_38 rfl (ar := ([pvR 154, oI ((δ : Int))], [])) (pcal_w (as := [oI ((δ : Int))]) rfl rfl rfl leo_154) ⟨by omega, Nat.le_of_ble_eq_true rfl, Nat.le_of_ble_eq_true rfl, rfl⟩ ?_
      refine vop_run hK (by omega) hB hS (by omega) (by omega) (fun t15 g15 hS15 => ?_) (fun t15 g15 hS15 => ?_) rfl rfl
      · replace hS15 : lS K g0 g15 (p + 1) 0 k c o v le st co en := hS15
        show t_X d 50 41 lv5 [oI 1] g15 P
        refine tz_eq vfa_41 (by decide) ⟨by omega, by omega⟩ (fun c16 => absurd c16 (by omega)) (fun c16 => ?_)
        show t_X d 50 44 lv5 [] g15 P
        refine t_0 vfa_44 rfl (ld_a l0) ?_
        refine t_0 vfa_45 rfl (ld_i l1) ?_
        refine t_0 vfa_46 rfl rfl ?_
        refine t_0 vfa_47 rfl pq_add ?_
        refine t_3 vfa_48 rfl (ar := ([pvR 154, oI ((δ : Int) + 1)], [])) (pcal_w (as := [oI ((δ : Int) + 1)]) rfl rfl rfl leo_154) ⟨by omega, Nat.le_of_ble_eq_true rfl, Nat.le_of_ble_eq_true rfl, rfl⟩ ?_
        refine hSu (by omega) _ (by omega) _ _ _ _ _ _ _ _ _ _ hS15 ⟨by omega, by omega, by omega, by omega⟩ _ (fun g17 f17 p17 k17 o17 v17 hS17 u17 t17 => ?_) (fun g17 p17 k17 o17 v17 hS17 Q17 t17 => ?_) _ rfl (congrArg (fun x => some (oI x)) (show (δ : Int) + 1 = ((δ + 1 : Nat) : Int) by omega))
        · replace hS17 : lS K g0 g17 p17 f17 k17 c o17 v17 le st co en := hS17
          have m17 := lc_m hB hK hS17
          show t_X d 50 51 lv5 [] g17 P
          refine t_0 vfa_51 rfl (ld_a l0) ?_
          refine t_0 vfa_52 rfl (pq_b (by decide)) ?_
          refine t_3 vfa_54 rfl (ar := ([pvR 154, oI 93], [])) (pcal_w (as := [oI 93]) rfl rfl rfl leo_154) ⟨by omega, Nat.le_of_ble_eq_true rfl, Nat.le_of_ble_eq_true rfl, rfl⟩ ?_
          refine vxn_run hK hB hS17 (by omega) (fun g18 hS18 => ?_) rfl
          replace hS18 : lS K g0 g18 p17 f17 k17 c o17 v17 le st co en := hS18
          show t_X d 50 57 lv5 [] g18 P
          refine t_1 vfa_57 rfl (pb_goto (pc := 57) (by decide)) ?_
          show t_X d 50 110 lv5 [] g18 P
          refine t_5 vfa_110 rfl rfl ?_
          exact hF _ _ _ _ _ _ hS18 (by omega) (lx_F2 hLP (by omega) (by omega) t17)
        · replace hS17 : lS K g0 g17 p17 0 k17 c o17 v17 le st co en := hS17
          have R17 := Q17
          unfold lQ at R17
          show t_X d 50 51 lv5 [] g17 P
          refine t_0 vfa_51 rfl (ld_a l0) ?_
          refine t_0 vfa_52 rfl (pq_b (by decide)) ?_
          refine t_3 vfa_54 rfl (ar := ([pvR 154, oI 93], [])) (pcal_w (as := [oI 93]) rfl rfl rfl leo_154) ⟨by omega, Nat.le_of_ble_eq_true rfl, Nat.le_of_ble_eq_true rfl, rfl⟩ ?_
          have b19 := hH p17 (by omega)
          have z19 := tH_n (B := B) (n := n) (p := p17)
          refine vex_run hK (by omega) hB hS17 ⟨by omega, by omega⟩ (fun t19 g19 hS19 => ?_) (fun t19 g19 hS19 => ?_) rfl rfl
          · replace hS19 : lS K g0 g19 (p17 + 1) 0 k17 c o17 v17 le st co en := hS19
            show t_X d 50 57 lv5 [] g19 P
            refine t_1 vfa_57 rfl (pb_goto (pc := 57) (by decide)) ?_
            show t_X d 50 110 lv5 [] g19 P
            refine t_5 vfa_110 rfl rfl ?_
            exact hO _ _ _ _ _ hS19 ⟨by omega, by omega, by omega, by omega, by omega, by omega, by omega⟩ (lx_F4 hLP (by omega) (by omega) t17 ⟨by omega, by omega, by omega, by omega⟩ (by omega))
          · replace hS19 : lS K g0 g19 p17 (-1000 - p17) k17 c o17 v17 le st co en := hS19
            show t_X d 50 57 lv5 [] g19 P
            refine t_1 vfa_57 rfl (pb_goto (pc := 57) (by decide)) ?_
            show t_X d 50 110 lv5 [] g19 P
            refine t_5 vfa_110 rfl rfl ?_
            exact hF _ _ _ _ _ _ hS19 (by omega) (lx_F3 hLP (by omega) (by omega) t17 ⟨by omega, by omega, by omega, by omega⟩ (by omega))
      · replace hS15 : lS K g0 g15 p (-5000 - p) k c o v le st co en := hS15
        show t_X d 50 41 lv5 [oI 0] g15 P
        refine tz_eq vfa_41 (by decide) ⟨by omega, by omega⟩ (fun c20 => ?_) (fun c20 => absurd c20 (by omega))
        show t_X d 50 110 lv5 [] g15 P
        refine t_5 vfa_110 rfl rfl ?_
        exact hF _ _ _ _ _ _ hS15 (by omega) (lx_F1 hLP (by omega) (by omega))
  · show t_X d 50 18 lv3 [] g P
    refine t_0 vfa_18 rfl rfl ?_
    refine t_1 vfa_19 rfl (pb_goto (pc := 19) (by decide)) ?_
    show t_X d 50 29 lv3 [oI (-1)] g P
    refine t_2 vfa_29 rfl (w := (px_s1 lv3 3 (oI (-1)), [])) rfl ?_
    replace l0 : px_lg (px_s1 lv3 3 (oI (-1))) 0 = some (pvR 154) := s1_ne (by decide) (fun _ => rfl) l0
    replace l1 : px_lg (px_s1 lv3 3 (oI (-1))) 1 = some (oI ((δ : Int))) := s1_ne (by decide) (fun _ => rfl) l1
    replace l2 : px_lg (px_s1 lv3 3 (oI (-1))) 2 = some (oI (tH B n p)) := s1_ne (by decide) (fun _ => rfl) l2
    have l3 : px_lg (px_s1 lv3 3 (oI (-1))) 3 = some (oI (-1)) := s1_eq
    generalize px_s1 lv3 3 (oI (-1)) = lv21 at l0 l1 l2 l3 ⊢
    show t_X d 50 30 lv21 [] g P
    refine t_0 vfa_30 rfl (ld_i l2) ?_
    refine t_0 vfa_31 rfl (pq_b (by decide)) ?_
    refine tb_ne vfa_33 (by decide) ⟨by omega, by omega⟩ ⟨by omega, by omega⟩ (fun c22 => ?_) (fun c22 => absurd c22 (by omega))
    show t_X d 50 60 lv21 [] g P
    refine t_0 vfa_60 rfl (ld_i l2) ?_
    refine t_0 vfa_61 rfl (pq_b (by decide)) ?_
    refine t_0 vfa_63 rfl (pq_b (by decide)) ?_
    refine t_3 vfa_65 rfl (ar := ([oI (tH B n p), oI 48, oI 57], [])) (pcal_s ⟨Or.inr rfl, rfl, Nat.le_of_ble_eq_true rfl⟩) ⟨by omega, Nat.le_of_ble_eq_true rfl, Nat.le_of_ble_eq_true rfl, rfl⟩ ?_
    refine ii_run ⟨by omega, by omega⟩ ⟨by omega, by omega⟩ ⟨by omega, by omega⟩ rfl rfl rfl (fun t23 => ?_) (fun t23 => ?_)
    · show t_X d 50 68 lv21 [oI 1] g P
      refine tz_eq vfa_68 (by decide) ⟨by omega, by omega⟩ (fun c24 => absurd c24 (by omega)) (fun c24 => ?_)
      show t_X d 50 71 lv21 [] g P
      refine t_0 vfa_71 rfl (ld_a l0) ?_
      refine t_3 vfa_72 rfl (ar := ([pvR 154], [])) (pcal_w (as := []) rfl rfl rfl leo_154) ⟨by omega, Nat.le_of_ble_eq_true rfl, Nat.le_of_ble_eq_true rfl, rfl⟩ ?_
      refine vnu_run hK (by omega) hB hS ⟨by omega, by omega, by omega, by omega⟩ (by unfold tDg; omega) (fun g25 f25 q25 hS25 t25 => ?_) (fun g25 x25 q25 hS25 t25 => ?_) rfl
      · replace hS25 : lS K g0 g25 q25 f25 k c o v le st co en := hS25
        show t_X d 50 75 lv21 [] g25 P
        refine t_1 vfa_75 rfl (pb_goto (pc := 75) (by decide)) ?_
        show t_X d 50 110 lv21 [] g25 P
        refine t_5 vfa_110 rfl rfl ?_
        exact hF _ _ _ _ _ _ hS25 (by have := t25.2; omega) (lx_F6 hLP t25)
      · replace hS25 : lS K g0 g25 q25 0 (k + 1) c (updI o k.toNat 0) (updI v k.toNat x25) le st co en := hS25
        show t_X d 50 75 lv21 [] g25 P
        refine t_1 vfa_75 rfl (pb_goto (pc := 75) (by decide)) ?_
        show t_X d 50 110 lv21 [] g25 P
        refine t_5 vfa_110 rfl rfl ?_
        have b9 := lNu_b t25
        have z9 := tH_n (B := B) (n := n) (p := q25 - 1)
        unfold tDg at b9
        exact hO _ _ _ _ _ hS25 ⟨by omega, by omega, by omega, by omega, by omega, by omega, by omega⟩ (lx_F5 hLP t25)
    · show t_X d 50 68 lv21 [oI 0] g P
      refine tz_eq vfa_68 (by decide) ⟨by omega, by omega⟩ (fun c26 => ?_) (fun c26 => absurd c26 (by omega))
      show t_X d 50 78 lv21 [] g P
      refine t_0 vfa_78 rfl (ld_i l3) ?_
      refine tz_lt vfa_79 (by decide) ⟨by omega, by omega⟩ (fun c27 => ?_) (fun c27 => absurd c27 (by omega))
      show t_X d 50 105 lv21 [] g P
      refine t_0 vfa_105 rfl (ld_a l0) ?_
      refine t_0 vfa_106 rfl rfl ?_
      refine t_3 vfa_107 rfl (ar := ([pvR 154, oI 1], [])) (pcal_w (as := [oI 1]) rfl rfl rfl leo_154) ⟨by omega, Nat.le_of_ble_eq_true rfl, Nat.le_of_ble_eq_true rfl, rfl⟩ ?_
      refine vfl_run hK hB hS ⟨by omega, by omega⟩ (fun g28 hS28 => ?_) rfl rfl
      replace hS28 : lS K g0 g28 p (-1000 * 1 - p) k c o v le st co en := hS28
      show t_X d 50 110 lv21 [] g28 P
      refine t_5 vfa_110 rfl rfl ?_
      rw [show -1000 * 1 - p = -1000 - p by omega] at hS28
      exact hF _ _ _ _ _ _ hS28 (by omega) (lx_F8 hLP (by omega) (fun z => by unfold tDg at z; omega) (by omega))
theorem vte_x {d : Nat} {g : pH} {j : Int} (hj : 0 ≤ j ∧ j ≤ 1000) {P : Option pv × pH → Prop} (hP : P (none, g)) {lv : List (Nat × pv)} (l0 : px_lg lv 0 = some (pvR 154)) (l2 : px_lg lv 2 = some (oI (-1))) (l3 : px_lg lv 3 = some (oI j)) : t_X d 55 15 lv [] g P := by
  refine t_0 vte_15 rfl (ld_i l3) ?_
  refine t_0 vte_16 rfl (pq_s (by decide)) ?_
  refine tb_ge vte_19 (by decide) ⟨by omega, by omega⟩ ⟨by omega, by omega⟩ (fun c1 => ?_) (fun c1 => ?_)
  · show t_X d 55 66 lv [] g P
    refine t_5 vte_66 rfl rfl ?_
    exact hP
  · show t_X d 55 22 lv [] g P
    refine t_0 vte_22 rfl (ld_i l2) ?_
    refine t_0 vte_23 rfl rfl ?_
    refine tb_eq vte_24 (by decide) ⟨by omega, by omega⟩ ⟨by omega, by omega⟩ (fun c2 => ?_) (fun c2 => absurd c2 (by omega))
    show t_X d 55 66 lv [] g P
    refine t_5 vte_66 rfl rfl ?_
    exact hP
set_option maxHeartbeats 4000000 in
theorem vte_l {K : Nat} (hK : lK K) {g0 : pH} {B : tC} {n : Int} (hB : lB K g0 B n) {δ : Nat} (hδ : δ ≤ 6) (hFa : lSt K g0 B n 50 0 (10 + 3 * (6 - δ)) δ) {d : Nat} (hd : 11 + 3 * (6 - δ) ≤ d) {c : Int} {le st co en : tC} : ∀ (y j : Nat) (g : pH) (lv : List (Nat × pv)) (p k : Int) (o v : tC) (P : Option pv × pH → Prop), n - p ≤ y → (j : Int) < p → lS K g0 g p 0 k c o v le st co en → lP n p k → (∀ (g1 : pH) (f p1 k1 : Int) (o1 v1 : tC), lS K g0 g1 p1 f k1 c o1 v1 le st co en → f < 0 → lI (tH B n) n 1 δ p k o v (.inl f) → P (none, g1)) → (∀ (g1 : pH) (p1 k1 : Int) (o1 v1 : tC), lS K g0 g1 p1 0 k1 c o1 v1 le st co en → lQl n p k p1 k1 → lI (tH B n) n 1 δ p k o v (.inr (p1, k1, o1, v1)) → P (none, g1)) → px_lg lv 0 = some (pvR 154) → px_lg lv 1 = some (oI (δ : Int)) → px_lg lv 2 = some (oI (lT3 (tH B n p))) → px_lg lv 3 = some (oI (j : Int)) → t_X d 55 15 lv [] g P := by
  intro y
  induction y with
  | zero =>
    intro j g lv p k o v P hy hj hS hLP hF hO l0 l1 l2 l3
    obtain ⟨hn, hp, hf, hk, hc, hH⟩ := lc_m hB hK hS
    have hP := hLP
    unfold lP at hP
    have w9 := lT3_b (tH B n p)
    have z9 := tH_n (B := B) (n := n) (p := p)
    refine t_0 vte_15 rfl (ld_i l3) ?_
    refine t_0 vte_16 rfl (pq_s (by decide)) ?_
    refine tb_ge vte_19 (by decide) ⟨by omega, by omega⟩ ⟨by omega, by omega⟩ (fun c1 => absurd c1 (by omega)) (fun c1 => ?_)
    show t_X d 55 22 lv [] g P
    refine t_0 vte_22 rfl (ld_i l2) ?_
    refine t_0 vte_23 rfl rfl ?_
    refine tb_eq vte_24 (by decide) ⟨by omega, by omega⟩ ⟨by omega, by omega⟩ (fun c2 => ?_) (fun c2 => ?_)
    · show t_X d 55 66 lv [] g P
      refine t_5 vte_66 rfl rfl ?_
      exact hO _ _ _ _ _ hS ⟨by omega, by omega, by omega, by omega, by omega, by omega, by omega⟩ (lx_T1 hLP (by omega))
    · show t_X d 55 27 lv [] g P
      refine t_0 vte_27 rfl (ld_a l0) ?_
      refine t_0 vte_28 rfl rfl ?_
      refine t_0 vte_29 rfl (pq_cv leo_154 rfl (show cF g 154 2 = p from S_f hS 0 (Nat.le_of_ble_eq_true rfl))) ?_
      show t_X d 55 32 lv [oI (p), pvR 154] g P
      refine t_0 vte_32 rfl rfl ?_
      refine t_0 vte_33 rfl pq_add ?_
      refine ts_f (n := 0) rfl rfl (lk_f0 hK) vte_34 rfl leo_154 hS (lk_w0 hK) lgy_154_2 (by decide) ⟨by omega, by omega⟩ (fun g3 hS3 => ?_)
      replace hS3 : lS K g0 g3 (p + 1) 0 k c o v le st co en := hS3
      show t_X d 55 37 lv [] g3 P
      refine t_0 vte_37 rfl (ld_a l0) ?_
      refine t_0 vte_38 rfl (ld_i l1) ?_
      refine t_3 vte_39 rfl (ar := ([pvR 154, oI ((δ : Int))], [])) (pcal_w (as := [oI ((δ : Int))]) rfl rfl rfl leo_154) ⟨by omega, Nat.le_of_ble_eq_true rfl, Nat.le_of_ble_eq_true rfl, rfl⟩ ?_
      refine hFa _ (by omega) _ _ _ _ _ _ _ _ _ _ hS3 ⟨by omega, by omega, by omega, by omega⟩ _ (fun g4 f4 p4 k4 o4 v4 hS4 u4 t4 => ?_) (fun g4 p4 k4 o4 v4 hS4 Q4 t4 => ?_) _ rfl rfl
      · replace hS4 : lS K g0 g4 p4 f4 k4 c o4 v4 le st co en := hS4
        have m4 := lc_m hB hK hS4
        show t_X d 55 42 lv [] g4 P
        refine t_0 vte_42 rfl (ld_a l0) ?_
        refine t_0 vte_43 rfl (pq_ro leo_154 rfl (lc_c hB hK hS4)) ?_
        show t_X d 55 46 lv [pvR K] g4 P
        refine t_0 vte_46 rfl (ld_i l2) ?_
        refine t_0 vte_47 rfl rfl ?_
        refine t_3 vte_48 rfl (ar := ([pvR K, oI (lT3 (tH B n p)), oI 0], [])) (pcal_w (as := [oI 0, oI (lT3 (tH B n p))]) rfl rfl rfl (lk_e hK)) ⟨by omega, Nat.le_of_ble_eq_true rfl, Nat.le_of_ble_eq_true rfl, rfl⟩ ?_
        refine vem_run hK hB hS4 ⟨by omega, by omega⟩ ⟨by omega, by omega⟩ (fun t5 g5 hS5 => ?_) (fun t5 => ?_) rfl rfl rfl
        · replace hS5 : lS K g0 g5 p4 f4 (k4 + 1) c (updI o4 k4.toNat (lT3 (tH B n p))) (updI v4 k4.toNat 0) le st co en := hS5
          show t_X d 55 51 lv [oI (k4)] g5 P
          refine t_0 vte_51 rfl rfl ?_
          refine t_0 vte_52 rfl (ld_a l0) ?_
          refine t_0 vte_53 rfl rfl ?_
          refine t_0 vte_55 rfl rfl ?_
          refine t_3 vte_56 rfl (ar := ([pvR 154, pvR 1005, oI 4], [])) (pcal_w (as := [oI 4, pvR 1005]) rfl rfl rfl leo_154) ⟨by omega, Nat.le_of_ble_eq_true rfl, Nat.le_of_ble_eq_true rfl, rfl⟩ ?_
          refine von_run hK (by omega) hB hS5 (by omega) ?_ rfl
          show t_X d 55 59 lv [oI (-1)] g5 P
          refine t_2 vte_59 rfl (w := (px_s1 lv 2 (oI (-1)), [])) rfl ?_
          replace l0 : px_lg (px_s1 lv 2 (oI (-1))) 0 = some (pvR 154) := s1_ne (by decide) (fun _ => rfl) l0
          replace l1 : px_lg (px_s1 lv 2 (oI (-1))) 1 = some (oI ((δ : Int))) := s1_ne (by decide) (fun _ => rfl) l1
          replace l3 : px_lg (px_s1 lv 2 (oI (-1))) 3 = some (oI ((j : Int))) := s1_ne (by decide) (fun _ => rfl) l3
          have l2 : px_lg (px_s1 lv 2 (oI (-1))) 2 = some (oI (-1)) := s1_eq
          generalize px_s1 lv 2 (oI (-1)) = lv6 at l0 l1 l3 l2 ⊢
          show t_X d 55 60 lv6 [] g5 P
          refine t_2 vte_60 rfl (w := (px_s1 lv6 3 (oI ((j : Int) + 1)), [])) (pq_inc l3 (by decide)) ?_
          replace l0 : px_lg (px_s1 lv6 3 (oI ((j : Int) + 1))) 0 = some (pvR 154) := s1_ne (by decide) (fun _ => rfl) l0
          replace l1 : px_lg (px_s1 lv6 3 (oI ((j : Int) + 1))) 1 = some (oI ((δ : Int))) := s1_ne (by decide) (fun _ => rfl) l1
          replace l2 : px_lg (px_s1 lv6 3 (oI ((j : Int) + 1))) 2 = some (oI (-1)) := s1_ne (by decide) (fun _ => rfl) l2
          have l3 : px_lg (px_s1 lv6 3 (oI ((j : Int) + 1))) 3 = some (oI ((j : Int) + 1)) := s1_eq
          generalize px_s1 lv6 3 (oI ((j : Int) + 1)) = lv7 at l0 l1 l2 l3 ⊢
          show t_X d 55 63 lv7 [] g5 P
          refine t_1 vte_63 rfl (pb_goto (pc := 63) (by decide)) ?_
          show t_X d 55 15 lv7 [] g5 P
          exact vte_x (by omega) (hF _ _ _ _ _ _ hS5 (by omega) (lx_T2 hLP (by omega) t4)) l0 l2 l3
        · show t_X d 55 51 lv [oI (-1)] g4 P
          refine t_0 vte_51 rfl rfl ?_
          refine t_0 vte_52 rfl (ld_a l0) ?_
          refine t_0 vte_53 rfl rfl ?_
          refine t_0 vte_55 rfl rfl ?_
          refine t_3 vte_56 rfl (ar := ([pvR 154, pvR 1005, oI 4], [])) (pcal_w (as := [oI 4, pvR 1005]) rfl rfl rfl leo_154) ⟨by omega, Nat.le_of_ble_eq_true rfl, Nat.le_of_ble_eq_true rfl, rfl⟩ ?_
          refine von_run hK (by omega) hB hS4 (by omega) ?_ rfl
          show t_X d 55 59 lv [oI (-1)] g4 P
          refine t_2 vte_59 rfl (w := (px_s1 lv 2 (oI (-1)), [])) rfl ?_
          replace l0 : px_lg (px_s1 lv 2 (oI (-1))) 0 = some (pvR 154) := s1_ne (by decide) (fun _ => rfl) l0
          replace l1 : px_lg (px_s1 lv 2 (oI (-1))) 1 = some (oI ((δ : Int))) := s1_ne (by decide) (fun _ => rfl) l1
          replace l3 : px_lg (px_s1 lv 2 (oI (-1))) 3 = some (oI ((j : Int))) := s1_ne (by decide) (fun _ => rfl) l3
          have l2 : px_lg (px_s1 lv 2 (oI (-1))) 2 = some (oI (-1)) := s1_eq
          generalize px_s1 lv 2 (oI (-1)) = lv8 at l0 l1 l3 l2 ⊢
          show t_X d 55 60 lv8 [] g4 P
          refine t_2 vte_60 rfl (w := (px_s1 lv8 3 (oI ((j : Int) + 1)), [])) (pq_inc l3 (by decide)) ?_
          replace l0 : px_lg (px_s1 lv8 3 (oI ((j : Int) + 1))) 0 = some (pvR 154) := s1_ne (by decide) (fun _ => rfl) l0
          replace l1 : px_lg (px_s1 lv8 3 (oI ((j : Int) + 1))) 1 = some (oI ((δ : Int))) := s1_ne (by decide) (fun _ => rfl) l1
          replace l2 : px_lg (px_s1 lv8 3 (oI ((j : Int) + 1))) 2 = some (oI (-1)) := s1_ne (by decide) (fun _ => rfl) l2
          have l3 : px_lg (px_s1 lv8 3 (oI ((j : Int) + 1))) 3 = some (oI ((j : Int) + 1)) := s1_eq
          generalize px_s1 lv8 3 (oI ((j : Int) + 1)) = lv9 at l0 l1 l2 l3 ⊢
          show t_X d 55 63 lv9 [] g4 P
          refine t_1 vte_63 rfl (pb_goto (pc := 63) (by decide)) ?_
          show t_X d 55 15 lv9 [] g4 P
          exact vte_x (by omega) (hF _ _ _ _ _ _ hS4 (by omega) (lx_T2 hLP (by omega) t4)) l0 l2 l3
      · replace hS4 : lS K g0 g4 p4 0 k4 c o4 v4 le st co en := hS4
        have R4 := Q4
        unfold lQ at R4
        show t_X d 55 42 lv [] g4 P
        refine t_0 vte_42 rfl (ld_a l0) ?_
        refine t_0 vte_43 rfl (pq_ro leo_154 rfl (lc_c hB hK hS4)) ?_
        show t_X d 55 46 lv [pvR K] g4 P
        refine t_0 vte_46 rfl (ld_i l2) ?_
        refine t_0 vte_47 rfl rfl ?_
        refine t_3 vte_48 rfl (ar := ([pvR K, oI (lT3 (tH B n p)), oI 0], [])) (pcal_w (as := [oI 0, oI (lT3 (tH B n p))]) rfl rfl rfl (lk_e hK)) ⟨by omega, Nat.le_of_ble_eq_true rfl, Nat.le_of_ble_eq_true rfl, rfl⟩ ?_
        refine vem_run hK hB hS4 ⟨by omega, by omega⟩ ⟨by omega, by omega⟩ (fun _ g10 hS10 => ?_) (fun t10 => absurd t10 (by omega)) rfl rfl rfl
        replace hS10 : lS K g0 g10 p4 0 (k4 + 1) c (updI o4 k4.toNat (lT3 (tH B n p))) (updI v4 k4.toNat 0) le st co en := hS10
        show t_X d 55 51 lv [oI (k4)] g10 P
        refine t_0 vte_51 rfl rfl ?_
        refine t_0 vte_52 rfl (ld_a l0) ?_
        refine t_0 vte_53 rfl rfl ?_
        refine t_0 vte_55 rfl rfl ?_
        refine t_3 vte_56 rfl (ar := ([pvR 154, pvR 1005, oI 4], [])) (pcal_w (as := [oI 4, pvR 1005]) rfl rfl rfl leo_154) ⟨by omega, Nat.le_of_ble_eq_true rfl, Nat.le_of_ble_eq_true rfl, rfl⟩ ?_
        refine vo4_run hK (by omega) hB hS10 ?_ rfl rfl rfl
        have b11 := hH p4 (by omega)
        have z11 := tH_n (B := B) (n := n) (p := p4)
        have w12 := lT3_b (tH B n p4)
        show t_X d 55 59 lv [oI (lT3 (tH B n p4))] g10 P
        refine t_2 vte_59 rfl (w := (px_s1 lv 2 (oI (lT3 (tH B n p4))), [])) rfl ?_
        replace l0 : px_lg (px_s1 lv 2 (oI (lT3 (tH B n p4)))) 0 = some (pvR 154) := s1_ne (by decide) (fun _ => rfl) l0
        replace l1 : px_lg (px_s1 lv 2 (oI (lT3 (tH B n p4)))) 1 = some (oI ((δ : Int))) := s1_ne (by decide) (fun _ => rfl) l1
        replace l3 : px_lg (px_s1 lv 2 (oI (lT3 (tH B n p4)))) 3 = some (oI ((j : Int))) := s1_ne (by decide) (fun _ => rfl) l3
        have l2 : px_lg (px_s1 lv 2 (oI (lT3 (tH B n p4)))) 2 = some (oI (lT3 (tH B n p4))) := s1_eq
        generalize px_s1 lv 2 (oI (lT3 (tH B n p4))) = lv13 at l0 l1 l3 l2 ⊢
        show t_X d 55 60 lv13 [] g10 P
        refine t_2 vte_60 rfl (w := (px_s1 lv13 3 (oI ((j : Int) + 1)), [])) (pq_inc l3 (by decide)) ?_
        replace l0 : px_lg (px_s1 lv13 3 (oI ((j : Int) + 1))) 0 = some (pvR 154) := s1_ne (by decide) (fun _ => rfl) l0
        replace l1 : px_lg (px_s1 lv13 3 (oI ((j : Int) + 1))) 1 = some (oI ((δ : Int))) := s1_ne (by decide) (fun _ => rfl) l1
        replace l2 : px_lg (px_s1 lv13 3 (oI ((j : Int) + 1))) 2 = some (oI (lT3 (tH B n p4))) := s1_ne (by decide) (fun _ => rfl) l2
        have l3 : px_lg (px_s1 lv13 3 (oI ((j : Int) + 1))) 3 = some (oI ((j : Int) + 1)) := s1_eq
        generalize px_s1 lv13 3 (oI ((j : Int) + 1)) = lv14 at l0 l1 l2 l3 ⊢
        show t_X d 55 63 lv14 [] g10 P
        refine t_1 vte_63 rfl (pb_goto (pc := 63) (by decide)) ?_
        show t_X d 55 15 lv14 [] g10 P
        exfalso
        omega
  | succ y ih =>
    intro j g lv p k o v P hy hj hS hLP hF hO l0 l1 l2 l3
    obtain ⟨hn, hp, hf, hk, hc, hH⟩ := lc_m hB hK hS
    have hP := hLP
    unfold lP at hP
    have w9 := lT3_b (tH B n p)
    have z9 := tH_n (B := B) (n := n) (p := p)
    refine t_0 vte_15 rfl (ld_i l3) ?_
    refine t_0 vte_16 rfl (pq_s (by decide)) ?_
    refine tb_ge vte_19 (by decide) ⟨by omega, by omega⟩ ⟨by omega, by omega⟩ (fun c1 => absurd c1 (by omega)) (fun c1 => ?_)
    show t_X d 55 22 lv [] g P
    refine t_0 vte_22 rfl (ld_i l2) ?_
    refine t_0 vte_23 rfl rfl ?_
    refine tb_eq vte_24 (by decide) ⟨by omega, by omega⟩ ⟨by omega, by omega⟩ (fun c2 => ?_) (fun c2 => ?_)
    · show t_X d 55 66 lv [] g P
      refine t_5 vte_66 rfl rfl ?_
      exact hO _ _ _ _ _ hS ⟨by omega, by omega, by omega, by omega, by omega, by omega, by omega⟩ (lx_T1 hLP (by omega))
    · show t_X d 55 27 lv [] g P
      refine t_0 vte_27 rfl (ld_a l0) ?_
      refine t_0 vte_28 rfl rfl ?_
      refine t_0 vte_29 rfl (pq_cv leo_154 rfl (show cF g 154 2 = p from S_f hS 0 (Nat.le_of_ble_eq_true rfl))) ?_
      show t_X d 55 32 lv [oI (p), pvR 154] g P
      refine t_0 vte_32 rfl rfl ?_
      refine t_0 vte_33 rfl pq_add ?_
      refine ts_f (n := 0) rfl rfl (lk_f0 hK) vte_34 rfl leo_154 hS (lk_w0 hK) lgy_154_2 (by decide) ⟨by omega, by omega⟩ (fun g3 hS3 => ?_)
      replace hS3 : lS K g0 g3 (p + 1) 0 k c o v le st co en := hS3
      show t_X d 55 37 lv [] g3 P
      refine t_0 vte_37 rfl (ld_a l0) ?_
      refine t_0 vte_38 rfl (ld_i l1) ?_
      refine t_3 vte_39 rfl (ar := ([pvR 154, oI ((δ : Int))], [])) (pcal_w (as := [oI ((δ : Int))]) rfl rfl rfl leo_154) ⟨by omega, Nat.le_of_ble_eq_true rfl, Nat.le_of_ble_eq_true rfl, rfl⟩ ?_
      refine hFa _ (by omega) _ _ _ _ _ _ _ _ _ _ hS3 ⟨by omega, by omega, by omega, by omega⟩ _ (fun g4 f4 p4 k4 o4 v4 hS4 u4 t4 => ?_) (fun g4 p4 k4 o4 v4 hS4 Q4 t4 => ?_) _ rfl rfl
      · replace hS4 : lS K g0 g4 p4 f4 k4 c o4 v4 le st co en := hS4
        have m4 := lc_m hB hK hS4
        show t_X d 55 42 lv [] g4 P
        refine t_0 vte_42 rfl (ld_a l0) ?_
        refine t_0 vte_43 rfl (pq_ro leo_154 rfl (lc_c hB hK hS4)) ?_
        show t_X d 55 46 lv [pvR K] g4 P
        refine t_0 vte_46 rfl (ld_i l2) ?_
        refine t_0 vte_47 rfl rfl ?_
        refine t_3 vte_48 rfl (ar := ([pvR K, oI (lT3 (tH B n p)), oI 0], [])) (pcal_w (as := [oI 0, oI (lT3 (tH B n p))]) rfl rfl rfl (lk_e hK)) ⟨by omega, Nat.le_of_ble_eq_true rfl, Nat.le_of_ble_eq_true rfl, rfl⟩ ?_
        refine vem_run hK hB hS4 ⟨by omega, by omega⟩ ⟨by omega, by omega⟩ (fun t5 g5 hS5 => ?_) (fun t5 => ?_) rfl rfl rfl
        · replace hS5 : lS K g0 g5 p4 f4 (k4 + 1) c (updI o4 k4.toNat (lT3 (tH B n p))) (updI v4 k4.toNat 0) le st co en := hS5
          show t_X d 55 51 lv [oI (k4)] g5 P
          refine t_0 vte_51 rfl rfl ?_
          refine t_0 vte_52 rfl (ld_a l0) ?_
          refine t_0 vte_53 rfl rfl ?_
          refine t_0 vte_55 rfl rfl ?_
          refine t_3 vte_56 rfl (ar := ([pvR 154, pvR 1005, oI 4], [])) (pcal_w (as := [oI 4, pvR 1005]) rfl rfl rfl leo_154) ⟨by omega, Nat.le_of_ble_eq_true rfl, Nat.le_of_ble_eq_true rfl, rfl⟩ ?_
          refine von_run hK (by omega) hB hS5 (by omega) ?_ rfl
          show t_X d 55 59 lv [oI (-1)] g5 P
          refine t_2 vte_59 rfl (w := (px_s1 lv 2 (oI (-1)), [])) rfl ?_
          replace l0 : px_lg (px_s1 lv 2 (oI (-1))) 0 = some (pvR 154) := s1_ne (by decide) (fun _ => rfl) l0
          replace l1 : px_lg (px_s1 lv 2 (oI (-1))) 1 = some (oI ((δ : Int))) := s1_ne (by decide) (fun _ => rfl) l1
          replace l3 : px_lg (px_s1 lv 2 (oI (-1))) 3 = some (oI ((j : Int))) := s1_ne (by decide) (fun _ => rfl) l3
          have l2 : px_lg (px_s1 lv 2 (oI (-1))) 2 = some (oI (-1)) := s1_eq
          generalize px_s1 lv 2 (oI (-1)) = lv6 at l0 l1 l3 l2 ⊢
          show t_X d 55 60 lv6 [] g5 P
          refine t_2 vte_60 rfl (w := (px_s1 lv6 3 (oI ((j : Int) + 1)), [])) (pq_inc l3 (by decide)) ?_
          replace l0 : px_lg (px_s1 lv6 3 (oI ((j : Int) + 1))) 0 = some (pvR 154) := s1_ne (by decide) (fun _ => rfl) l0
          replace l1 : px_lg (px_s1 lv6 3 (oI ((j : Int) + 1))) 1 = some (oI ((δ : Int))) := s1_ne (by decide) (fun _ => rfl) l1
          replace l2 : px_lg (px_s1 lv6 3 (oI ((j : Int) + 1))) 2 = some (oI (-1)) := s1_ne (by decide) (fun _ => rfl) l2
          have l3 : px_lg (px_s1 lv6 3 (oI ((j : Int) + 1))) 3 = some (oI ((j : Int) + 1)) := s1_eq
          generalize px_s1 lv6 3 (oI ((j : Int) + 1)) = lv7 at l0 l1 l2 l3 ⊢
          show t_X d 55 63 lv7 [] g5 P
          refine t_1 vte_63 rfl (pb_goto (pc := 63) (by decide)) ?_
          show t_X d 55 15 lv7 [] g5 P
          exact vte_x (by omega) (hF _ _ _ _ _ _ hS5 (by omega) (lx_T2 hLP (by omega) t4)) l0 l2 l3
        · show t_X d 55 51 lv [oI (-1)] g4 P
          refine t_0 vte_51 rfl rfl ?_
          refine t_0 vte_52 rfl (ld_a l0) ?_
          refine t_0 vte_53 rfl rfl ?_
          refine t_0 vte_55 rfl rfl ?_
          refine t_3 vte_56 rfl (ar := ([pvR 154, pvR 1005, oI 4], [])) (pcal_w (as := [oI 4, pvR 1005]) rfl rfl rfl leo_154) ⟨by omega, Nat.le_of_ble_eq_true rfl, Nat.le_of_ble_eq_true rfl, rfl⟩ ?_
          refine von_run hK (by omega) hB hS4 (by omega) ?_ rfl
          show t_X d 55 59 lv [oI (-1)] g4 P
          refine t_2 vte_59 rfl (w := (px_s1 lv 2 (oI (-1)), [])) rfl ?_
          replace l0 : px_lg (px_s1 lv 2 (oI (-1))) 0 = some (pvR 154) := s1_ne (by decide) (fun _ => rfl) l0
          replace l1 : px_lg (px_s1 lv 2 (oI (-1))) 1 = some (oI ((δ : Int))) := s1_ne (by decide) (fun _ => rfl) l1
          replace l3 : px_lg (px_s1 lv 2 (oI (-1))) 3 = some (oI ((j : Int))) := s1_ne (by decide) (fun _ => rfl) l3
          have l2 : px_lg (px_s1 lv 2 (oI (-1))) 2 = some (oI (-1)) := s1_eq
          generalize px_s1 lv 2 (oI (-1)) = lv8 at l0 l1 l3 l2 ⊢
          show t_X d 55 60 lv8 [] g4 P
          refine t_2 vte_60 rfl (w := (px_s1 lv8 3 (oI ((j : Int) + 1)), [])) (pq_inc l3 (by decide)) ?_
          replace l0 : px_lg (px_s1 lv8 3 (oI ((j : Int) + 1))) 0 = some (pvR 154) := s1_ne (by decide) (fun _ => rfl) l0
          replace l1 : px_lg (px_s1 lv8 3 (oI ((j : Int) + 1))) 1 = some (oI ((δ : Int))) := s1_ne (by decide) (fun _ => rfl) l1
          replace l2 : px_lg (px_s1 lv8 3 (oI ((j : Int) + 1))) 2 = some (oI (-1)) := s1_ne (by decide) (fun _ => rfl) l2
          have l3 : px_lg (px_s1 lv8 3 (oI ((j : Int) + 1))) 3 = some (oI ((j : Int) + 1)) := s1_eq
          generalize px_s1 lv8 3 (oI ((j : Int) + 1)) = lv9 at l0 l1 l2 l3 ⊢
          show t_X d 55 63 lv9 [] g4 P
          refine t_1 vte_63 rfl (pb_goto (pc := 63) (by decide)) ?_
          show t_X d 55 15 lv9 [] g4 P
          exact vte_x (by omega) (hF _ _ _ _ _ _ hS4 (by omega) (lx_T2 hLP (by omega) t4)) l0 l2 l3
      · replace hS4 : lS K g0 g4 p4 0 k4 c o4 v4 le st co en := hS4
        have R4 := Q4
        unfold lQ at R4
        show t_X d 55 42 lv [] g4 P
        refine t_0 vte_42 rfl (ld_a l0) ?_
        refine t_0 vte_43 rfl (pq_ro leo_154 rfl (lc_c hB hK hS4)) ?_
        show t_X d 55 46 lv [pvR K] g4 P
        refine t_0 vte_46 rfl (ld_i l2) ?_
        refine t_0 vte_47 rfl rfl ?_
        refine t_3 vte_48 rfl (ar := ([pvR K, oI (lT3 (tH B n p)), oI 0], [])) (pcal_w (as := [oI 0, oI (lT3 (tH B n p))]) rfl rfl rfl (lk_e hK)) ⟨by omega, Nat.le_of_ble_eq_true rfl, Nat.le_of_ble_eq_true rfl, rfl⟩ ?_
        refine vem_run hK hB hS4 ⟨by omega, by omega⟩ ⟨by omega, by omega⟩ (fun _ g10 hS10 => ?_) (fun t10 => absurd t10 (by omega)) rfl rfl rfl
        replace hS10 : lS K g0 g10 p4 0 (k4 + 1) c (updI o4 k4.toNat (lT3 (tH B n p))) (updI v4 k4.toNat 0) le st co en := hS10
        show t_X d 55 51 lv [oI (k4)] g10 P
        refine t_0 vte_51 rfl rfl ?_
        refine t_0 vte_52 rfl (ld_a l0) ?_
        refine t_0 vte_53 rfl rfl ?_
        refine t_0 vte_55 rfl rfl ?_
        refine t_3 vte_56 rfl (ar := ([pvR 154, pvR 1005, oI 4], [])) (pcal_w (as := [oI 4, pvR 1005]) rfl rfl rfl leo_154) ⟨by omega, Nat.le_of_ble_eq_true rfl, Nat.le_of_ble_eq_true rfl, rfl⟩ ?_
        refine vo4_run hK (by omega) hB hS10 ?_ rfl rfl rfl
        have b11 := hH p4 (by omega)
        have z11 := tH_n (B := B) (n := n) (p := p4)
        have w12 := lT3_b (tH B n p4)
        show t_X d 55 59 lv [oI (lT3 (tH B n p4))] g10 P
        refine t_2 vte_59 rfl (w := (px_s1 lv 2 (oI (lT3 (tH B n p4))), [])) rfl ?_
        replace l0 : px_lg (px_s1 lv 2 (oI (lT3 (tH B n p4)))) 0 = some (pvR 154) := s1_ne (by decide) (fun _ => rfl) l0
        replace l1 : px_lg (px_s1 lv 2 (oI (lT3 (tH B n p4)))) 1 = some (oI ((δ : Int))) := s1_ne (by decide) (fun _ => rfl) l1
        replace l3 : px_lg (px_s1 lv 2 (oI (lT3 (tH B n p4)))) 3 = some (oI ((j : Int))) := s1_ne (by decide) (fun _ => rfl) l3
        have l2 : px_lg (px_s1 lv 2 (oI (lT3 (tH B n p4)))) 2 = some (oI (lT3 (tH B n p4))) := s1_eq
        generalize px_s1 lv 2 (oI (lT3 (tH B n p4))) = lv13 at l0 l1 l3 l2 ⊢
        show t_X d 55 60 lv13 [] g10 P
        refine t_2 vte_60 rfl (w := (px_s1 lv13 3 (oI ((j : Int) + 1)), [])) (pq_inc l3 (by decide)) ?_
        replace l0 : px_lg (px_s1 lv13 3 (oI ((j : Int) + 1))) 0 = some (pvR 154) := s1_ne (by decide) (fun _ => rfl) l0
        replace l1 : px_lg (px_s1 lv13 3 (oI ((j : Int) + 1))) 1 = some (oI ((δ : Int))) := s1_ne (by decide) (fun _ => rfl) l1
        replace l2 : px_lg (px_s1 lv13 3 (oI ((j : Int) + 1))) 2 = some (oI (lT3 (tH B n p4))) := s1_ne (by decide) (fun _ => rfl) l2
        have l3 : px_lg (px_s1 lv13 3 (oI ((j : Int) + 1))) 3 = some (oI ((j : Int) + 1)) := s1_eq
        generalize px_s1 lv13 3 (oI ((j : Int) + 1)) = lv14 at l0 l1 l2 l3 ⊢
        show t_X d 55 63 lv14 [] g10 P
        refine t_1 vte_63 rfl (pb_goto (pc := 63) (by decide)) ?_
        show t_X d 55 15 lv14 [] g10 P
        refine ih (j + 1) _ _ _ _ _ _ _ (by omega) (by omega) hS10 ⟨by omega, by omega, by omega, by omega⟩ (fun g9 f9 p9 k9 o9 v9 hS9 u9 t9 => ?_) (fun g9 p9 k9 o9 v9 hS9 Q9 t9 => ?_) l0 l1 l2 (l3.trans (congrArg (fun x => some (oI x)) (by omega)))
        · exact hF _ _ _ _ _ _ hS9 u9 (lx_T3 hLP (by omega) t4 ⟨by omega, by omega, by omega, by omega⟩ t9)
        · unfold lQl at Q9
          exact hO _ _ _ _ _ hS9 ⟨by omega, by omega, by omega, by omega, by omega, by omega, by omega⟩ (lx_T3 hLP (by omega) t4 ⟨by omega, by omega, by omega, by omega⟩ t9)
theorem vTe {K : Nat} (hK : lK K) {g0 : pH} {B : tC} {n : Int} (hB : lB K g0 B n) {δ : Nat} (hδ : δ ≤ 6) (hFa : lSt K g0 B n 50 0 (10 + 3 * (6 - δ)) δ) : lSt K g0 B n 55 2 (11 + 3 * (6 - δ)) δ := by
  intro d hd g p k c o v le st co en hS hLP P hF hO lv l0 l1
  obtain ⟨hn, hp, hf, hk, hc, hH⟩ := lc_m hB hK hS
  have hP := hLP
  unfold lP at hP
  refine t_0 vte_0 rfl (ld_a l0) ?_
  refine t_0 vte_1 rfl (ld_i l1) ?_
  refine t_3 vte_2 rfl (ar := ([pvR 154, oI ((δ : Int))], [])) (pcal_w (as := [oI ((δ : Int))]) rfl rfl rfl leo_154) ⟨by omega, Nat.le_of_ble_eq_true rfl, Nat.le_of_ble_eq_true rfl, rfl⟩ ?_
  refine hFa _ (by omega) _ _ _ _ _ _ _ _ _ _ hS ⟨by omega, by omega, by omega, by omega⟩ _ (fun g1 f1 p1 k1 o1 v1 hS1 u1 t1 => ?_) (fun g1 p1 k1 o1 v1 hS1 Q1 t1 => ?_) _ rfl rfl
  · replace hS1 : lS K g0 g1 p1 f1 k1 c o1 v1 le st co en := hS1
    have m1 := lc_m hB hK hS1
    show t_X d 55 5 lv [] g1 P
    refine t_0 vte_5 rfl (ld_a l0) ?_
    refine t_0 vte_6 rfl rfl ?_
    refine t_0 vte_8 rfl rfl ?_
    refine t_3 vte_9 rfl (ar := ([pvR 154, pvR 1005, oI 4], [])) (pcal_w (as := [oI 4, pvR 1005]) rfl rfl rfl leo_154) ⟨by omega, Nat.le_of_ble_eq_true rfl, Nat.le_of_ble_eq_true rfl, rfl⟩ ?_
    refine von_run hK (by omega) hB hS1 (by omega) ?_ rfl
    show t_X d 55 12 lv [oI (-1)] g1 P
    refine t_2 vte_12 rfl (w := (px_s1 lv 2 (oI (-1)), [])) rfl ?_
    replace l0 : px_lg (px_s1 lv 2 (oI (-1))) 0 = some (pvR 154) := s1_ne (by decide) (fun _ => rfl) l0
    replace l1 : px_lg (px_s1 lv 2 (oI (-1))) 1 = some (oI ((δ : Int))) := s1_ne (by decide) (fun _ => rfl) l1
    have l2 : px_lg (px_s1 lv 2 (oI (-1))) 2 = some (oI (-1)) := s1_eq
    generalize px_s1 lv 2 (oI (-1)) = lv2 at l0 l1 l2 ⊢
    show t_X d 55 13 lv2 [] g1 P
    refine t_0 vte_13 rfl rfl ?_
    refine t_2 vte_14 rfl (w := (px_s1 lv2 3 (oI 0), [])) rfl ?_
    replace l0 : px_lg (px_s1 lv2 3 (oI 0)) 0 = some (pvR 154) := s1_ne (by decide) (fun _ => rfl) l0
    replace l1 : px_lg (px_s1 lv2 3 (oI 0)) 1 = some (oI ((δ : Int))) := s1_ne (by decide) (fun _ => rfl) l1
    replace l2 : px_lg (px_s1 lv2 3 (oI 0)) 2 = some (oI (-1)) := s1_ne (by decide) (fun _ => rfl) l2
    have l3 : px_lg (px_s1 lv2 3 (oI 0)) 3 = some (oI 0) := s1_eq
    generalize px_s1 lv2 3 (oI 0) = lv3 at l0 l1 l2 l3 ⊢
    show t_X d 55 15 lv3 [] g1 P
    exact vte_x (by omega) (hF _ _ _ _ _ _ hS1 (by omega) (lx_E1 hLP t1)) l0 l2 l3
  · replace hS1 : lS K g0 g1 p1 0 k1 c o1 v1 le st co en := hS1
    have R1 := Q1
    unfold lQ at R1
    show t_X d 55 5 lv [] g1 P
    refine t_0 vte_5 rfl (ld_a l0) ?_
    refine t_0 vte_6 rfl rfl ?_
    refine t_0 vte_8 rfl rfl ?_
    refine t_3 vte_9 rfl (ar := ([pvR 154, pvR 1005, oI 4], [])) (pcal_w (as := [oI 4, pvR 1005]) rfl rfl rfl leo_154) ⟨by omega, Nat.le_of_ble_eq_true rfl, Nat.le_of_ble_eq_true rfl, rfl⟩ ?_
    refine vo4_run hK (by omega) hB hS1 ?_ rfl rfl rfl
    have b4 := hH p1 (by omega)
    have z4 := tH_n (B := B) (n := n) (p := p1)
    have w5 := lT3_b (tH B n p1)
    show t_X d 55 12 lv [oI (lT3 (tH B n p1))] g1 P
    refine t_2 vte_12 rfl (w := (px_s1 lv 2 (oI (lT3 (tH B n p1))), [])) rfl ?_
    replace l0 : px_lg (px_s1 lv 2 (oI (lT3 (tH B n p1)))) 0 = some (pvR 154) := s1_ne (by decide) (fun _ => rfl) l0
    replace l1 : px_lg (px_s1 lv 2 (oI (lT3 (tH B n p1)))) 1 = some (oI ((δ : Int))) := s1_ne (by decide) (fun _ => rfl) l1
    have l2 : px_lg (px_s1 lv 2 (oI (lT3 (tH B n p1)))) 2 = some (oI (lT3 (tH B n p1))) := s1_eq
    generalize px_s1 lv 2 (oI (lT3 (tH B n p1))) = lv6 at l0 l1 l2 ⊢
    show t_X d 55 13 lv6 [] g1 P
    refine t_0 vte_13 rfl rfl ?_
    refine t_2 vte_14 rfl (w := (px_s1 lv6 3 (oI 0), [])) rfl ?_
    replace l0 : px_lg (px_s1 lv6 3 (oI 0)) 0 = some (pvR 154) := s1_ne (by decide) (fun _ => rfl) l0
    replace l1 : px_lg (px_s1 lv6 3 (oI 0)) 1 = some (oI ((δ : Int))) := s1_ne (by decide) (fun _ => rfl) l1
    replace l2 : px_lg (px_s1 lv6 3 (oI 0)) 2 = some (oI (lT3 (tH B n p1))) := s1_ne (by decide) (fun _ => rfl) l2
    have l3 : px_lg (px_s1 lv6 3 (oI 0)) 3 = some (oI 0) := s1_eq
    generalize px_s1 lv6 3 (oI 0) = lv7 at l0 l1 l2 l3 ⊢
    show t_X d 55 15 lv7 [] g1 P
    refine vte_l hK hB hδ hFa hd 241 0 _ _ _ _ _ _ _ (by omega) (by omega) hS1 ⟨by omega, by omega, by omega, by omega⟩ (fun g9 f9 p9 k9 o9 v9 hS9 u9 t9 => ?_) (fun g9 p9 k9 o9 v9 hS9 Q9 t9 => ?_) l0 l1 l2 l3
    · exact hF _ _ _ _ _ _ hS9 u9 (lx_E2 hLP t1 ⟨by omega, by omega, by omega, by omega⟩ t9)
    · unfold lQl at Q9
      exact hO _ _ _ _ _ hS9 ⟨by omega, by omega, by omega, by omega, by omega, by omega, by omega⟩ (lx_E2 hLP t1 ⟨by omega, by omega, by omega, by omega⟩ t9)
theorem vsu_x {d : Nat} {g : pH} {j : Int} (hj : 0 ≤ j ∧ j ≤ 1000) {P : Option pv × pH → Prop} (hP : P (none, g)) {lv : List (Nat × pv)} (l0 : px_lg lv 0 = some (pvR 154)) (l2 : px_lg lv 2 = some (oI (-1))) (l3 : px_lg lv 3 = some (oI j)) : t_X d 54 15 lv [] g P := by
  refine t_0 vsu_15 rfl (ld_i l3) ?_
  refine t_0 vsu_16 rfl (pq_s (by decide)) ?_
  refine tb_ge vsu_19 (by decide) ⟨by omega, by omega⟩ ⟨by omega, by omega⟩ (fun c1 => ?_) (fun c1 => ?_)
  · show t_X d 54 66 lv [] g P
    refine t_5 vsu_66 rfl rfl ?_
    exact hP
  · show t_X d 54 22 lv [] g P
    refine t_0 vsu_22 rfl (ld_i l2) ?_
    refine t_0 vsu_23 rfl rfl ?_
    refine tb_eq vsu_24 (by decide) ⟨by omega, by omega⟩ ⟨by omega, by omega⟩ (fun c2 => ?_) (fun c2 => absurd c2 (by omega))
    show t_X d 54 66 lv [] g P
    refine t_5 vsu_66 rfl rfl ?_
    exact hP
set_option maxHeartbeats 4000000 in
theorem vsu_l {K : Nat} (hK : lK K) {g0 : pH} {B : tC} {n : Int} (hB : lB K g0 B n) {δ : Nat} (hδ : δ ≤ 6) (hFa : lSt K g0 B n 55 2 (11 + 3 * (6 - δ)) δ) {d : Nat} (hd : 12 + 3 * (6 - δ) ≤ d) {c : Int} {le st co en : tC} : ∀ (y j : Nat) (g : pH) (lv : List (Nat × pv)) (p k : Int) (o v : tC) (P : Option pv × pH → Prop), n - p ≤ y → (j : Int) < p → lS K g0 g p 0 k c o v le st co en → lP n p k → (∀ (g1 : pH) (f p1 k1 : Int) (o1 v1 : tC), lS K g0 g1 p1 f k1 c o1 v1 le st co en → f < 0 → lI (tH B n) n 3 δ p k o v (.inl f) → P (none, g1)) → (∀ (g1 : pH) (p1 k1 : Int) (o1 v1 : tC), lS K g0 g1 p1 0 k1 c o1 v1 le st co en → lQl n p k p1 k1 → lI (tH B n) n 3 δ p k o v (.inr (p1, k1, o1, v1)) → P (none, g1)) → px_lg lv 0 = some (pvR 154) → px_lg lv 1 = some (oI (δ : Int)) → px_lg lv 2 = some (oI (lS2 (tH B n p))) → px_lg lv 3 = some (oI (j : Int)) → t_X d 54 15 lv [] g P := by
  intro y
  induction y with
  | zero =>
    intro j g lv p k o v P hy hj hS hLP hF hO l0 l1 l2 l3
    obtain ⟨hn, hp, hf, hk, hc, hH⟩ := lc_m hB hK hS
    have hP := hLP
    unfold lP at hP
    have w9 := lS2_b (tH B n p)
    have z9 := tH_n (B := B) (n := n) (p := p)
    refine t_0 vsu_15 rfl (ld_i l3) ?_
    refine t_0 vsu_16 rfl (pq_s (by decide)) ?_
    refine tb_ge vsu_19 (by decide) ⟨by omega, by omega⟩ ⟨by omega, by omega⟩ (fun c1 => absurd c1 (by omega)) (fun c1 => ?_)
    show t_X d 54 22 lv [] g P
    refine t_0 vsu_22 rfl (ld_i l2) ?_
    refine t_0 vsu_23 rfl rfl ?_
    refine tb_eq vsu_24 (by decide) ⟨by omega, by omega⟩ ⟨by omega, by omega⟩ (fun c2 => ?_) (fun c2 => ?_)
    · show t_X d 54 66 lv [] g P
      refine t_5 vsu_66 rfl rfl ?_
      exact hO _ _ _ _ _ hS ⟨by omega, by omega, by omega, by omega, by omega, by omega, by omega⟩ (lx_S1 hLP (by omega))
    · show t_X d 54 27 lv [] g P
      refine t_0 vsu_27 rfl (ld_a l0) ?_
      refine t_0 vsu_28 rfl rfl ?_
      refine t_0 vsu_29 rfl (pq_cv leo_154 rfl (show cF g 154 2 = p from S_f hS 0 (Nat.le_of_ble_eq_true rfl))) ?_
      show t_X d 54 32 lv [oI (p), pvR 154] g P
      refine t_0 vsu_32 rfl rfl ?_
      refine t_0 vsu_33 rfl pq_add ?_
      refine ts_f (n := 0) rfl rfl (lk_f0 hK) vsu_34 rfl leo_154 hS (lk_w0 hK) lgy_154_2 (by decide) ⟨by omega, by omega⟩ (fun g3 hS3 => ?_)
      replace hS3 : lS K g0 g3 (p + 1) 0 k c o v le st co en := hS3
      show t_X d 54 37 lv [] g3 P
      refine t_0 vsu_37 rfl (ld_a l0) ?_
      refine t_0 vsu_38 rfl (ld_i l1) ?_
      refine t_3 vsu_39 rfl (ar := ([pvR 154, oI ((δ : Int))], [])) (pcal_w (as := [oI ((δ : Int))]) rfl rfl rfl leo_154) ⟨by omega, Nat.le_of_ble_eq_true rfl, Nat.le_of_ble_eq_true rfl, rfl⟩ ?_
      refine hFa _ (by omega) _ _ _ _ _ _ _ _ _ _ hS3 ⟨by omega, by omega, by omega, by omega⟩ _ (fun g4 f4 p4 k4 o4 v4 hS4 u4 t4 => ?_) (fun g4 p4 k4 o4 v4 hS4 Q4 t4 => ?_) _ rfl rfl
      · replace hS4 : lS K g0 g4 p4 f4 k4 c o4 v4 le st co en := hS4
        have m4 := lc_m hB hK hS4
        show t_X d 54 42 lv [] g4 P
        refine t_0 vsu_42 rfl (ld_a l0) ?_
        refine t_0 vsu_43 rfl (pq_ro leo_154 rfl (lc_c hB hK hS4)) ?_
        show t_X d 54 46 lv [pvR K] g4 P
        refine t_0 vsu_46 rfl (ld_i l2) ?_
        refine t_0 vsu_47 rfl rfl ?_
        refine t_3 vsu_48 rfl (ar := ([pvR K, oI (lS2 (tH B n p)), oI 0], [])) (pcal_w (as := [oI 0, oI (lS2 (tH B n p))]) rfl rfl rfl (lk_e hK)) ⟨by omega, Nat.le_of_ble_eq_true rfl, Nat.le_of_ble_eq_true rfl, rfl⟩ ?_
        refine vem_run hK hB hS4 ⟨by omega, by omega⟩ ⟨by omega, by omega⟩ (fun t5 g5 hS5 => ?_) (fun t5 => ?_) rfl rfl rfl
        · replace hS5 : lS K g0 g5 p4 f4 (k4 + 1) c (updI o4 k4.toNat (lS2 (tH B n p))) (updI v4 k4.toNat 0) le st co en := hS5
          show t_X d 54 51 lv [oI (k4)] g5 P
          refine t_0 vsu_51 rfl rfl ?_
          refine t_0 vsu_52 rfl (ld_a l0) ?_
          refine t_0 vsu_53 rfl rfl ?_
          refine t_0 vsu_55 rfl rfl ?_
          refine t_3 vsu_56 rfl (ar := ([pvR 154, pvR 1004, oI 2], [])) (pcal_w (as := [oI 2, pvR 1004]) rfl rfl rfl leo_154) ⟨by omega, Nat.le_of_ble_eq_true rfl, Nat.le_of_ble_eq_true rfl, rfl⟩ ?_
          refine von_run hK (by omega) hB hS5 (by omega) ?_ rfl
          show t_X d 54 59 lv [oI (-1)] g5 P
          refine t_2 vsu_59 rfl (w := (px_s1 lv 2 (oI (-1)), [])) rfl ?_
          replace l0 : px_lg (px_s1 lv 2 (oI (-1))) 0 = some (pvR 154) := s1_ne (by decide) (fun _ => rfl) l0
          replace l1 : px_lg (px_s1 lv 2 (oI (-1))) 1 = some (oI ((δ : Int))) := s1_ne (by decide) (fun _ => rfl) l1
          replace l3 : px_lg (px_s1 lv 2 (oI (-1))) 3 = some (oI ((j : Int))) := s1_ne (by decide) (fun _ => rfl) l3
          have l2 : px_lg (px_s1 lv 2 (oI (-1))) 2 = some (oI (-1)) := s1_eq
          generalize px_s1 lv 2 (oI (-1)) = lv6 at l0 l1 l3 l2 ⊢
          show t_X d 54 60 lv6 [] g5 P
          refine t_2 vsu_60 rfl (w := (px_s1 lv6 3 (oI ((j : Int) + 1)), [])) (pq_inc l3 (by decide)) ?_
          replace l0 : px_lg (px_s1 lv6 3 (oI ((j : Int) + 1))) 0 = some (pvR 154) := s1_ne (by decide) (fun _ => rfl) l0
          replace l1 : px_lg (px_s1 lv6 3 (oI ((j : Int) + 1))) 1 = some (oI ((δ : Int))) := s1_ne (by decide) (fun _ => rfl) l1
          replace l2 : px_lg (px_s1 lv6 3 (oI ((j : Int) + 1))) 2 = some (oI (-1)) := s1_ne (by decide) (fun _ => rfl) l2
          have l3 : px_lg (px_s1 lv6 3 (oI ((j : Int) + 1))) 3 = some (oI ((j : Int) + 1)) := s1_eq
          generalize px_s1 lv6 3 (oI ((j : Int) + 1)) = lv7 at l0 l1 l2 l3 ⊢
          show t_X d 54 63 lv7 [] g5 P
          refine t_1 vsu_63 rfl (pb_goto (pc := 63) (by decide)) ?_
          show t_X d 54 15 lv7 [] g5 P
          exact vsu_x (by omega) (hF _ _ _ _ _ _ hS5 (by omega) (lx_S2 hLP (by omega) t4)) l0 l2 l3
        · show t_X d 54 51 lv [oI (-1)] g4 P
          refine t_0 vsu_51 rfl rfl ?_
          refine t_0 vsu_52 rfl (ld_a l0) ?_
          refine t_0 vsu_53 rfl rfl ?_
          refine t_0 vsu_55 rfl rfl ?_
          refine t_3 vsu_56 rfl (ar := ([pvR 154, pvR 1004, oI 2], [])) (pcal_w (as := [oI 2, pvR 1004]) rfl rfl rfl leo_154) ⟨by omega, Nat.le_of_ble_eq_true rfl, Nat.le_of_ble_eq_true rfl, rfl⟩ ?_
          refine von_run hK (by omega) hB hS4 (by omega) ?_ rfl
          show t_X d 54 59 lv [oI (-1)] g4 P
          refine t_2 vsu_59 rfl (w := (px_s1 lv 2 (oI (-1)), [])) rfl ?_
          replace l0 : px_lg (px_s1 lv 2 (oI (-1))) 0 = some (pvR 154) := s1_ne (by decide) (fun _ => rfl) l0
          replace l1 : px_lg (px_s1 lv 2 (oI (-1))) 1 = some (oI ((δ : Int))) := s1_ne (by decide) (fun _ => rfl) l1
          replace l3 : px_lg (px_s1 lv 2 (oI (-1))) 3 = some (oI ((j : Int))) := s1_ne (by decide) (fun _ => rfl) l3
          have l2 : px_lg (px_s1 lv 2 (oI (-1))) 2 = some (oI (-1)) := s1_eq
          generalize px_s1 lv 2 (oI (-1)) = lv8 at l0 l1 l3 l2 ⊢
          show t_X d 54 60 lv8 [] g4 P
          refine t_2 vsu_60 rfl (w := (px_s1 lv8 3 (oI ((j : Int) + 1)), [])) (pq_inc l3 (by decide)) ?_
          replace l0 : px_lg (px_s1 lv8 3 (oI ((j : Int) + 1))) 0 = some (pvR 154) := s1_ne (by decide) (fun _ => rfl) l0
          replace l1 : px_lg (px_s1 lv8 3 (oI ((j : Int) + 1))) 1 = some (oI ((δ : Int))) := s1_ne (by decide) (fun _ => rfl) l1
          replace l2 : px_lg (px_s1 lv8 3 (oI ((j : Int) + 1))) 2 = some (oI (-1)) := s1_ne (by decide) (fun _ => rfl) l2
          have l3 : px_lg (px_s1 lv8 3 (oI ((j : Int) + 1))) 3 = some (oI ((j : Int) + 1)) := s1_eq
          generalize px_s1 lv8 3 (oI ((j : Int) + 1)) = lv9 at l0 l1 l2 l3 ⊢
          show t_X d 54 63 lv9 [] g4 P
          refine t_1 vsu_63 rfl (pb_goto (pc := 63) (by decide)) ?_
          show t_X d 54 15 lv9 [] g4 P
          exact vsu_x (by omega) (hF _ _ _ _ _ _ hS4 (by omega) (lx_S2 hLP (by omega) t4)) l0 l2 l3
      · replace hS4 : lS K g0 g4 p4 0 k4 c o4 v4 le st co en := hS4
        have R4 := Q4
        unfold lQ at R4
        show t_X d 54 42 lv [] g4 P
        refine t_0 vsu_42 rfl (ld_a l0) ?_
        refine t_0 vsu_43 rfl (pq_ro leo_154 rfl (lc_c hB hK hS4)) ?_
        show t_X d 54 46 lv [pvR K] g4 P
        refine t_0 vsu_46 rfl (ld_i l2) ?_
        refine t_0 vsu_47 rfl rfl ?_
        refine t_3 vsu_48 rfl (ar := ([pvR K, oI (lS2 (tH B n p)), oI 0], [])) (pcal_w (as := [oI 0, oI (lS2 (tH B n p))]) rfl rfl rfl (lk_e hK)) ⟨by omega, Nat.le_of_ble_eq_true rfl, Nat.le_of_ble_eq_true rfl, rfl⟩ ?_
        refine vem_run hK hB hS4 ⟨by omega, by omega⟩ ⟨by omega, by omega⟩ (fun _ g10 hS10 => ?_) (fun t10 => absurd t10 (by omega)) rfl rfl rfl
        replace hS10 : lS K g0 g10 p4 0 (k4 + 1) c (updI o4 k4.toNat (lS2 (tH B n p))) (updI v4 k4.toNat 0) le st co en := hS10
        show t_X d 54 51 lv [oI (k4)] g10 P
        refine t_0 vsu_51 rfl rfl ?_
        refine t_0 vsu_52 rfl (ld_a l0) ?_
        refine t_0 vsu_53 rfl rfl ?_
        refine t_0 vsu_55 rfl rfl ?_
        refine t_3 vsu_56 rfl (ar := ([pvR 154, pvR 1004, oI 2], [])) (pcal_w (as := [oI 2, pvR 1004]) rfl rfl rfl leo_154) ⟨by omega, Nat.le_of_ble_eq_true rfl, Nat.le_of_ble_eq_true rfl, rfl⟩ ?_
        refine vo3_run hK (by omega) hB hS10 ?_ rfl rfl rfl
        have b11 := hH p4 (by omega)
        have z11 := tH_n (B := B) (n := n) (p := p4)
        have w12 := lS2_b (tH B n p4)
        show t_X d 54 59 lv [oI (lS2 (tH B n p4))] g10 P
        refine t_2 vsu_59 rfl (w := (px_s1 lv 2 (oI (lS2 (tH B n p4))), [])) rfl ?_
        replace l0 : px_lg (px_s1 lv 2 (oI (lS2 (tH B n p4)))) 0 = some (pvR 154) := s1_ne (by decide) (fun _ => rfl) l0
        replace l1 : px_lg (px_s1 lv 2 (oI (lS2 (tH B n p4)))) 1 = some (oI ((δ : Int))) := s1_ne (by decide) (fun _ => rfl) l1
        replace l3 : px_lg (px_s1 lv 2 (oI (lS2 (tH B n p4)))) 3 = some (oI ((j : Int))) := s1_ne (by decide) (fun _ => rfl) l3
        have l2 : px_lg (px_s1 lv 2 (oI (lS2 (tH B n p4)))) 2 = some (oI (lS2 (tH B n p4))) := s1_eq
        generalize px_s1 lv 2 (oI (lS2 (tH B n p4))) = lv13 at l0 l1 l3 l2 ⊢
        show t_X d 54 60 lv13 [] g10 P
        refine t_2 vsu_60 rfl (w := (px_s1 lv13 3 (oI ((j : Int) + 1)), [])) (pq_inc l3 (by decide)) ?_
        replace l0 : px_lg (px_s1 lv13 3 (oI ((j : Int) + 1))) 0 = some (pvR 154) := s1_ne (by decide) (fun _ => rfl) l0
        replace l1 : px_lg (px_s1 lv13 3 (oI ((j : Int) + 1))) 1 = some (oI ((δ : Int))) := s1_ne (by decide) (fun _ => rfl) l1
        replace l2 : px_lg (px_s1 lv13 3 (oI ((j : Int) + 1))) 2 = some (oI (lS2 (tH B n p4))) := s1_ne (by decide) (fun _ => rfl) l2
        have l3 : px_lg (px_s1 lv13 3 (oI ((j : Int) + 1))) 3 = some (oI ((j : Int) + 1)) := s1_eq
        generalize px_s1 lv13 3 (oI ((j : Int) + 1)) = lv14 at l0 l1 l2 l3 ⊢
        show t_X d 54 63 lv14 [] g10 P
        refine t_1 vsu_63 rfl (pb_goto (pc := 63) (by decide)) ?_
        show t_X d 54 15 lv14 [] g10 P
        exfalso
        omega
  | succ y ih =>
    intro j g lv p k o v P hy hj hS hLP hF hO l0 l1 l2 l3
    obtain ⟨hn, hp, hf, hk, hc, hH⟩ := lc_m hB hK hS
    have hP := hLP
    unfold lP at hP
    have w9 := lS2_b (tH B n p)
    have z9 := tH_n (B := B) (n := n) (p := p)
    refine t_0 vsu_15 rfl (ld_i l3) ?_
    refine t_0 vsu_16 rfl (pq_s (by decide)) ?_
    refine tb_ge vsu_19 (by decide) ⟨by omega, by omega⟩ ⟨by omega, by omega⟩ (fun c1 => absurd c1 (by omega)) (fun c1 => ?_)
    show t_X d 54 22 lv [] g P
    refine t_0 vsu_22 rfl (ld_i l2) ?_
    refine t_0 vsu_23 rfl rfl ?_
    refine tb_eq vsu_24 (by decide) ⟨by omega, by omega⟩ ⟨by omega, by omega⟩ (fun c2 => ?_) (fun c2 => ?_)
    · show t_X d 54 66 lv [] g P
      refine t_5 vsu_66 rfl rfl ?_
      exact hO _ _ _ _ _ hS ⟨by omega, by omega, by omega, by omega, by omega, by omega, by omega⟩ (lx_S1 hLP (by omega))
    · show t_X d 54 27 lv [] g P
      refine t_0 vsu_27 rfl (ld_a l0) ?_
      refine t_0 vsu_28 rfl rfl ?_
      refine t_0 vsu_29 rfl (pq_cv leo_154 rfl (show cF g 154 2 = p from S_f hS 0 (Nat.le_of_ble_eq_true rfl))) ?_
      show t_X d 54 32 lv [oI (p), pvR 154] g P
      refine t_0 vsu_32 rfl rfl ?_
      refine t_0 vsu_33 rfl pq_add ?_
      refine ts_f (n := 0) rfl rfl (lk_f0 hK) vsu_34 rfl leo_154 hS (lk_w0 hK) lgy_154_2 (by decide) ⟨by omega, by omega⟩ (fun g3 hS3 => ?_)
      replace hS3 : lS K g0 g3 (p + 1) 0 k c o v le st co en := hS3
      show t_X d 54 37 lv [] g3 P
      refine t_0 vsu_37 rfl (ld_a l0) ?_
      refine t_0 vsu_38 rfl (ld_i l1) ?_
      refine t_3 vsu_39 rfl (ar := ([pvR 154, oI ((δ : Int))], [])) (pcal_w (as := [oI ((δ : Int))]) rfl rfl rfl leo_154) ⟨by omega, Nat.le_of_ble_eq_true rfl, Nat.le_of_ble_eq_true rfl, rfl⟩ ?_
      refine hFa _ (by omega) _ _ _ _ _ _ _ _ _ _ hS3 ⟨by omega, by omega, by omega, by omega⟩ _ (fun g4 f4 p4 k4 o4 v4 hS4 u4 t4 => ?_) (fun g4 p4 k4 o4 v4 hS4 Q4 t4 => ?_) _ rfl rfl
      · replace hS4 : lS K g0 g4 p4 f4 k4 c o4 v4 le st co en := hS4
        have m4 := lc_m hB hK hS4
        show t_X d 54 42 lv [] g4 P
        refine t_0 vsu_42 rfl (ld_a l0) ?_
        refine t_0 vsu_43 rfl (pq_ro leo_154 rfl (lc_c hB hK hS4)) ?_
        show t_X d 54 46 lv [pvR K] g4 P
        refine t_0 vsu_46 rfl (ld_i l2) ?_
        refine t_0 vsu_47 rfl rfl ?_
        refine t_3 vsu_48 rfl (ar := ([pvR K, oI (lS2 (tH B n p)), oI 0], [])) (pcal_w (as := [oI 0, oI (lS2 (tH B n p))]) rfl rfl rfl (lk_e hK)) ⟨by omega, Nat.le_of_ble_eq_true rfl, Nat.le_of_ble_eq_true rfl, rfl⟩ ?_
        refine vem_run hK hB hS4 ⟨by omega, by omega⟩ ⟨by omega, by omega⟩ (fun t5 g5 hS5 => ?_) (fun t5 => ?_) rfl rfl rfl
        · replace hS5 : lS K g0 g5 p4 f4 (k4 + 1) c (updI o4 k4.toNat (lS2 (tH B n p))) (updI v4 k4.toNat 0) le st co en := hS5
          show t_X d 54 51 lv [oI (k4)] g5 P
          refine t_0 vsu_51 rfl rfl ?_
          refine t_0 vsu_52 rfl (ld_a l0) ?_
          refine t_0 vsu_53 rfl rfl ?_
          refine t_0 vsu_55 rfl rfl ?_
          refine t_3 vsu_56 rfl (ar := ([pvR 154, pvR 1004, oI 2], [])) (pcal_w (as := [oI 2, pvR 1004]) rfl rfl rfl leo_154) ⟨by omega, Nat.le_of_ble_eq_true rfl, Nat.le_of_ble_eq_true rfl, rfl⟩ ?_
          refine von_run hK (by omega) hB hS5 (by omega) ?_ rfl
          show t_X d 54 59 lv [oI (-1)] g5 P
          refine t_2 vsu_59 rfl (w := (px_s1 lv 2 (oI (-1)), [])) rfl ?_
          replace l0 : px_lg (px_s1 lv 2 (oI (-1))) 0 = some (pvR 154) := s1_ne (by decide) (fun _ => rfl) l0
          replace l1 : px_lg (px_s1 lv 2 (oI (-1))) 1 = some (oI ((δ : Int))) := s1_ne (by decide) (fun _ => rfl) l1
          replace l3 : px_lg (px_s1 lv 2 (oI (-1))) 3 = some (oI ((j : Int))) := s1_ne (by decide) (fun _ => rfl) l3
          have l2 : px_lg (px_s1 lv 2 (oI (-1))) 2 = some (oI (-1)) := s1_eq
          generalize px_s1 lv 2 (oI (-1)) = lv6 at l0 l1 l3 l2 ⊢
          show t_X d 54 60 lv6 [] g5 P
          refine t_2 vsu_60 rfl (w := (px_s1 lv6 3 (oI ((j : Int) + 1)), [])) (pq_inc l3 (by decide)) ?_
          replace l0 : px_lg (px_s1 lv6 3 (oI ((j : Int) + 1))) 0 = some (pvR 154) := s1_ne (by decide) (fun _ => rfl) l0
          replace l1 : px_lg (px_s1 lv6 3 (oI ((j : Int) + 1))) 1 = some (oI ((δ : Int))) := s1_ne (by decide) (fun _ => rfl) l1
          replace l2 : px_lg (px_s1 lv6 3 (oI ((j : Int) + 1))) 2 = some (oI (-1)) := s1_ne (by decide) (fun _ => rfl) l2
          have l3 : px_lg (px_s1 lv6 3 (oI ((j : Int) + 1))) 3 = some (oI ((j : Int) + 1)) := s1_eq
          generalize px_s1 lv6 3 (oI ((j : Int) + 1)) = lv7 at l0 l1 l2 l3 ⊢
          show t_X d 54 63 lv7 [] g5 P
          refine t_1 vsu_63 rfl (pb_goto (pc := 63) (by decide)) ?_
          show t_X d 54 15 lv7 [] g5 P
          exact vsu_x (by omega) (hF _ _ _ _ _ _ hS5 (by omega) (lx_S2 hLP (by omega) t4)) l0 l2 l3
        · show t_X d 54 51 lv [oI (-1)] g4 P
          refine t_0 vsu_51 rfl rfl ?_
          refine t_0 vsu_52 rfl (ld_a l0) ?_
          refine t_0 vsu_53 rfl rfl ?_
          refine t_0 vsu_55 rfl rfl ?_
          refine t_3 vsu_56 rfl (ar := ([pvR 154, pvR 1004, oI 2], [])) (pcal_w (as := [oI 2, pvR 1004]) rfl rfl rfl leo_154) ⟨by omega, Nat.le_of_ble_eq_true rfl, Nat.le_of_ble_eq_true rfl, rfl⟩ ?_
          refine von_run hK (by omega) hB hS4 (by omega) ?_ rfl
          show t_X d 54 59 lv [oI (-1)] g4 P
          refine t_2 vsu_59 rfl (w := (px_s1 lv 2 (oI (-1)), [])) rfl ?_
          replace l0 : px_lg (px_s1 lv 2 (oI (-1))) 0 = some (pvR 154) := s1_ne (by decide) (fun _ => rfl) l0
          replace l1 : px_lg (px_s1 lv 2 (oI (-1))) 1 = some (oI ((δ : Int))) := s1_ne (by decide) (fun _ => rfl) l1
          replace l3 : px_lg (px_s1 lv 2 (oI (-1))) 3 = some (oI ((j : Int))) := s1_ne (by decide) (fun _ => rfl) l3
          have l2 : px_lg (px_s1 lv 2 (oI (-1))) 2 = some (oI (-1)) := s1_eq
          generalize px_s1 lv 2 (oI (-1)) = lv8 at l0 l1 l3 l2 ⊢
          show t_X d 54 60 lv8 [] g4 P
          refine t_2 vsu_60 rfl (w := (px_s1 lv8 3 (oI ((j : Int) + 1)), [])) (pq_inc l3 (by decide)) ?_
          replace l0 : px_lg (px_s1 lv8 3 (oI ((j : Int) + 1))) 0 = some (pvR 154) := s1_ne (by decide) (fun _ => rfl) l0
          replace l1 : px_lg (px_s1 lv8 3 (oI ((j : Int) + 1))) 1 = some (oI ((δ : Int))) := s1_ne (by decide) (fun _ => rfl) l1
          replace l2 : px_lg (px_s1 lv8 3 (oI ((j : Int) + 1))) 2 = some (oI (-1)) := s1_ne (by decide) (fun _ => rfl) l2
          have l3 : px_lg (px_s1 lv8 3 (oI ((j : Int) + 1))) 3 = some (oI ((j : Int) + 1)) := s1_eq
          generalize px_s1 lv8 3 (oI ((j : Int) + 1)) = lv9 at l0 l1 l2 l3 ⊢
          show t_X d 54 63 lv9 [] g4 P
          refine t_1 vsu_63 rfl (pb_goto (pc := 63) (by decide)) ?_
          show t_X d 54 15 lv9 [] g4 P
          exact vsu_x (by omega) (hF _ _ _ _ _ _ hS4 (by omega) (lx_S2 hLP (by omega) t4)) l0 l2 l3
      · replace hS4 : lS K g0 g4 p4 0 k4 c o4 v4 le st co en := hS4
        have R4 := Q4
        unfold lQ at R4
        show t_X d 54 42 lv [] g4 P
        refine t_0 vsu_42 rfl (ld_a l0) ?_
        refine t_0 vsu_43 rfl (pq_ro leo_154 rfl (lc_c hB hK hS4)) ?_
        show t_X d 54 46 lv [pvR K] g4 P
        refine t_0 vsu_46 rfl (ld_i l2) ?_
        refine t_0 vsu_47 rfl rfl ?_
        refine t_3 vsu_48 rfl (ar := ([pvR K, oI (lS2 (tH B n p)), oI 0], [])) (pcal_w (as := [oI 0, oI (lS2 (tH B n p))]) rfl rfl rfl (lk_e hK)) ⟨by omega, Nat.le_of_ble_eq_true rfl, Nat.le_of_ble_eq_true rfl, rfl⟩ ?_
        refine vem_run hK hB hS4 ⟨by omega, by omega⟩ ⟨by omega, by omega⟩ (fun _ g10 hS10 => ?_) (fun t10 => absurd t10 (by omega)) rfl rfl rfl
        replace hS10 : lS K g0 g10 p4 0 (k4 + 1) c (updI o4 k4.toNat (lS2 (tH B n p))) (updI v4 k4.toNat 0) le st co en := hS10
        show t_X d 54 51 lv [oI (k4)] g10 P
        refine t_0 vsu_51 rfl rfl ?_
        refine t_0 vsu_52 rfl (ld_a l0) ?_
        refine t_0 vsu_53 rfl rfl ?_
        refine t_0 vsu_55 rfl rfl ?_
        refine t_3 vsu_56 rfl (ar := ([pvR 154, pvR 1004, oI 2], [])) (pcal_w (as := [oI 2, pvR 1004]) rfl rfl rfl leo_154) ⟨by omega, Nat.le_of_ble_eq_true rfl, Nat.le_of_ble_eq_true rfl, rfl⟩ ?_
        refine vo3_run hK (by omega) hB hS10 ?_ rfl rfl rfl
        have b11 := hH p4 (by omega)
        have z11 := tH_n (B := B) (n := n) (p := p4)
        have w12 := lS2_b (tH B n p4)
        show t_X d 54 59 lv [oI (lS2 (tH B n p4))] g10 P
        refine t_2 vsu_59 rfl (w := (px_s1 lv 2 (oI (lS2 (tH B n p4))), [])) rfl ?_
        replace l0 : px_lg (px_s1 lv 2 (oI (lS2 (tH B n p4)))) 0 = some (pvR 154) := s1_ne (by decide) (fun _ => rfl) l0
        replace l1 : px_lg (px_s1 lv 2 (oI (lS2 (tH B n p4)))) 1 = some (oI ((δ : Int))) := s1_ne (by decide) (fun _ => rfl) l1
        replace l3 : px_lg (px_s1 lv 2 (oI (lS2 (tH B n p4)))) 3 = some (oI ((j : Int))) := s1_ne (by decide) (fun _ => rfl) l3
        have l2 : px_lg (px_s1 lv 2 (oI (lS2 (tH B n p4)))) 2 = some (oI (lS2 (tH B n p4))) := s1_eq
        generalize px_s1 lv 2 (oI (lS2 (tH B n p4))) = lv13 at l0 l1 l3 l2 ⊢
        show t_X d 54 60 lv13 [] g10 P
        refine t_2 vsu_60 rfl (w := (px_s1 lv13 3 (oI ((j : Int) + 1)), [])) (pq_inc l3 (by decide)) ?_
        replace l0 : px_lg (px_s1 lv13 3 (oI ((j : Int) + 1))) 0 = some (pvR 154) := s1_ne (by decide) (fun _ => rfl) l0
        replace l1 : px_lg (px_s1 lv13 3 (oI ((j : Int) + 1))) 1 = some (oI ((δ : Int))) := s1_ne (by decide) (fun _ => rfl) l1
        replace l2 : px_lg (px_s1 lv13 3 (oI ((j : Int) + 1))) 2 = some (oI (lS2 (tH B n p4))) := s1_ne (by decide) (fun _ => rfl) l2
        have l3 : px_lg (px_s1 lv13 3 (oI ((j : Int) + 1))) 3 = some (oI ((j : Int) + 1)) := s1_eq
        generalize px_s1 lv13 3 (oI ((j : Int) + 1)) = lv14 at l0 l1 l2 l3 ⊢
        show t_X d 54 63 lv14 [] g10 P
        refine t_1 vsu_63 rfl (pb_goto (pc := 63) (by decide)) ?_
        show t_X d 54 15 lv14 [] g10 P
        refine ih (j + 1) _ _ _ _ _ _ _ (by omega) (by omega) hS10 ⟨by omega, by omega, by omega, by omega⟩ (fun g9 f9 p9 k9 o9 v9 hS9 u9 t9 => ?_) (fun g9 p9 k9 o9 v9 hS9 Q9 t9 => ?_) l0 l1 l2 (l3.trans (congrArg (fun x => some (oI x)) (by omega)))
        · exact hF _ _ _ _ _ _ hS9 u9 (lx_S3 hLP (by omega) t4 ⟨by omega, by omega, by omega, by omega⟩ t9)
        · unfold lQl at Q9
          exact hO _ _ _ _ _ hS9 ⟨by omega, by omega, by omega, by omega, by omega, by omega, by omega⟩ (lx_S3 hLP (by omega) t4 ⟨by omega, by omega, by omega, by omega⟩ t9)
theorem vSu {K : Nat} (hK : lK K) {g0 : pH} {B : tC} {n : Int} (hB : lB K g0 B n) {δ : Nat} (hδ : δ ≤ 6) (hFa : lSt K g0 B n 55 2 (11 + 3 * (6 - δ)) δ) : lSt K g0 B n 54 4 (12 + 3 * (6 - δ)) δ := by
  intro d hd g p k c o v le st co en hS hLP P hF hO lv l0 l1
  obtain ⟨hn, hp, hf, hk, hc, hH⟩ := lc_m hB hK hS
  have hP := hLP
  unfold lP at hP
  refine t_0 vsu_0 rfl (ld_a l0) ?_
  refine t_0 vsu_1 rfl (ld_i l1) ?_
  refine t_3 vsu_2 rfl (ar := ([pvR 154, oI ((δ : Int))], [])) (pcal_w (as := [oI ((δ : Int))]) rfl rfl rfl leo_154) ⟨by omega, Nat.le_of_ble_eq_true rfl, Nat.le_of_ble_eq_true rfl, rfl⟩ ?_
  refine hFa _ (by omega) _ _ _ _ _ _ _ _ _ _ hS ⟨by omega, by omega, by omega, by omega⟩ _ (fun g1 f1 p1 k1 o1 v1 hS1 u1 t1 => ?_) (fun g1 p1 k1 o1 v1 hS1 Q1 t1 => ?_) _ rfl rfl
  · replace hS1 : lS K g0 g1 p1 f1 k1 c o1 v1 le st co en := hS1
    have m1 := lc_m hB hK hS1
    show t_X d 54 5 lv [] g1 P
    refine t_0 vsu_5 rfl (ld_a l0) ?_
    refine t_0 vsu_6 rfl rfl ?_
    refine t_0 vsu_8 rfl rfl ?_
    refine t_3 vsu_9 rfl (ar := ([pvR 154, pvR 1004, oI 2], [])) (pcal_w (as := [oI 2, pvR 1004]) rfl rfl rfl leo_154) ⟨by omega, Nat.le_of_ble_eq_true rfl, Nat.le_of_ble_eq_true rfl, rfl⟩ ?_
    refine von_run hK (by omega) hB hS1 (by omega) ?_ rfl
    show t_X d 54 12 lv [oI (-1)] g1 P
    refine t_2 vsu_12 rfl (w := (px_s1 lv 2 (oI (-1)), [])) rfl ?_
    replace l0 : px_lg (px_s1 lv 2 (oI (-1))) 0 = some (pvR 154) := s1_ne (by decide) (fun _ => rfl) l0
    replace l1 : px_lg (px_s1 lv 2 (oI (-1))) 1 = some (oI ((δ : Int))) := s1_ne (by decide) (fun _ => rfl) l1
    have l2 : px_lg (px_s1 lv 2 (oI (-1))) 2 = some (oI (-1)) := s1_eq
    generalize px_s1 lv 2 (oI (-1)) = lv2 at l0 l1 l2 ⊢
    show t_X d 54 13 lv2 [] g1 P
    refine t_0 vsu_13 rfl rfl ?_
    refine t_2 vsu_14 rfl (w := (px_s1 lv2 3 (oI 0), [])) rfl ?_
    replace l0 : px_lg (px_s1 lv2 3 (oI 0)) 0 = some (pvR 154) := s1_ne (by decide) (fun _ => rfl) l0
    replace l1 : px_lg (px_s1 lv2 3 (oI 0)) 1 = some (oI ((δ : Int))) := s1_ne (by decide) (fun _ => rfl) l1
    replace l2 : px_lg (px_s1 lv2 3 (oI 0)) 2 = some (oI (-1)) := s1_ne (by decide) (fun _ => rfl) l2
    have l3 : px_lg (px_s1 lv2 3 (oI 0)) 3 = some (oI 0) := s1_eq
    generalize px_s1 lv2 3 (oI 0) = lv3 at l0 l1 l2 l3 ⊢
    show t_X d 54 15 lv3 [] g1 P
    exact vsu_x (by omega) (hF _ _ _ _ _ _ hS1 (by omega) (lx_U1 hLP t1)) l0 l2 l3
  · replace hS1 : lS K g0 g1 p1 0 k1 c o1 v1 le st co en := hS1
    have R1 := Q1
    unfold lQ at R1
    show t_X d 54 5 lv [] g1 P
    refine t_0 vsu_5 rfl (ld_a l0) ?_
    refine t_0 vsu_6 rfl rfl ?_
    refine t_0 vsu_8 rfl rfl ?_
    refine t_3 vsu_9 rfl (ar := ([pvR 154, pvR 1004, oI 2], [])) (pcal_w (as := [oI 2, pvR 1004]) rfl rfl rfl leo_154) ⟨by omega, Nat.le_of_ble_eq_true rfl, Nat.le_of_ble_eq_true rfl, rfl⟩ ?_
    refine vo3_run hK (by omega) hB hS1 ?_ rfl rfl rfl
    have b4 := hH p1 (by omega)
    have z4 := tH_n (B := B) (n := n) (p := p1)
    have w5 := lS2_b (tH B n p1)
    show t_X d 54 12 lv [oI (lS2 (tH B n p1))] g1 P
    refine t_2 vsu_12 rfl (w := (px_s1 lv 2 (oI (lS2 (tH B n p1))), [])) rfl ?_
    replace l0 : px_lg (px_s1 lv 2 (oI (lS2 (tH B n p1)))) 0 = some (pvR 154) := s1_ne (by decide) (fun _ => rfl) l0
    replace l1 : px_lg (px_s1 lv 2 (oI (lS2 (tH B n p1)))) 1 = some (oI ((δ : Int))) := s1_ne (by decide) (fun _ => rfl) l1
    have l2 : px_lg (px_s1 lv 2 (oI (lS2 (tH B n p1)))) 2 = some (oI (lS2 (tH B n p1))) := s1_eq
    generalize px_s1 lv 2 (oI (lS2 (tH B n p1))) = lv6 at l0 l1 l2 ⊢
    show t_X d 54 13 lv6 [] g1 P
    refine t_0 vsu_13 rfl rfl ?_
    refine t_2 vsu_14 rfl (w := (px_s1 lv6 3 (oI 0), [])) rfl ?_
    replace l0 : px_lg (px_s1 lv6 3 (oI 0)) 0 = some (pvR 154) := s1_ne (by decide) (fun _ => rfl) l0
    replace l1 : px_lg (px_s1 lv6 3 (oI 0)) 1 = some (oI ((δ : Int))) := s1_ne (by decide) (fun _ => rfl) l1
    replace l2 : px_lg (px_s1 lv6 3 (oI 0)) 2 = some (oI (lS2 (tH B n p1))) := s1_ne (by decide) (fun _ => rfl) l2
    have l3 : px_lg (px_s1 lv6 3 (oI 0)) 3 = some (oI 0) := s1_eq
    generalize px_s1 lv6 3 (oI 0) = lv7 at l0 l1 l2 l3 ⊢
    show t_X d 54 15 lv7 [] g1 P
    refine vsu_l hK hB hδ hFa hd 241 0 _ _ _ _ _ _ _ (by omega) (by omega) hS1 ⟨by omega, by omega, by omega, by omega⟩ (fun g9 f9 p9 k9 o9 v9 hS9 u9 t9 => ?_) (fun g9 p9 k9 o9 v9 hS9 Q9 t9 => ?_) l0 l1 l2 l3
    · exact hF _ _ _ _ _ _ hS9 u9 (lx_U2 hLP t1 ⟨by omega, by omega, by omega, by omega⟩ t9)
    · unfold lQl at Q9
      exact hO _ _ _ _ _ hS9 ⟨by omega, by omega, by omega, by omega, by omega, by omega, by omega⟩ (lx_U2 hLP t1 ⟨by omega, by omega, by omega, by omega⟩ t9)
set_option maxHeartbeats 4000000 in
theorem vCm {K : Nat} (hK : lK K) {g0 : pH} {B : tC} {n : Int} (hB : lB K g0 B n) {δ : Nat} (hδ : δ ≤ 6) (hSu : lSt K g0 B n 54 4 (12 + 3 * (6 - δ)) δ) : lSt K g0 B n 48 5 (13 + 3 * (6 - δ)) δ := by
  intro d hd g p k c o v le st co en hS hLP P hF hO lv l0 l1
  obtain ⟨hn, hp, hf, hk, hc, hH⟩ := lc_m hB hK hS
  have hP := hLP
  unfold lP at hP
  refine t_0 vcm_0 rfl (ld_a l0) ?_
  refine t_0 vcm_1 rfl (ld_i l1) ?_
  refine t_3 vcm_2 rfl (ar := ([pvR 154, oI ((δ : Int))], [])) (pcal_w (as := [oI ((δ : Int))]) rfl rfl rfl leo_154) ⟨by omega, Nat.le_of_ble_eq_true rfl, Nat.le_of_ble_eq_true rfl, rfl⟩ ?_
  refine hSu _ (by omega) _ _ _ _ _ _ _ _ _ _ hS ⟨by omega, by omega, by omega, by omega⟩ _ (fun g1 f1 p1 k1 o1 v1 hS1 u1 t1 => ?_) (fun g1 p1 k1 o1 v1 hS1 Q1 t1 => ?_) _ rfl rfl
  · replace hS1 : lS K g0 g1 p1 f1 k1 c o1 v1 le st co en := hS1
    have m1 := lc_m hB hK hS1
    show t_X d 48 5 lv [] g1 P
    refine t_0 vcm_5 rfl (ld_a l0) ?_
    refine t_0 vcm_6 rfl rfl ?_
    refine t_0 vcm_8 rfl (pq_b (by decide)) ?_
    refine t_3 vcm_10 rfl (ar := ([pvR 154, pvR 1002, oI 7], [])) (pcal_w (as := [oI 7, pvR 1002]) rfl rfl rfl leo_154) ⟨by omega, Nat.le_of_ble_eq_true rfl, Nat.le_of_ble_eq_true rfl, rfl⟩ ?_
    refine von_run hK (by omega) hB hS1 (by omega) ?_ rfl
    show t_X d 48 13 lv [oI (-1)] g1 P
    refine t_2 vcm_13 rfl (w := (px_s1 lv 2 (oI (-1)), [])) rfl ?_
    replace l0 : px_lg (px_s1 lv 2 (oI (-1))) 0 = some (pvR 154) := s1_ne (by decide) (fun _ => rfl) l0
    replace l1 : px_lg (px_s1 lv 2 (oI (-1))) 1 = some (oI ((δ : Int))) := s1_ne (by decide) (fun _ => rfl) l1
    have l2 : px_lg (px_s1 lv 2 (oI (-1))) 2 = some (oI (-1)) := s1_eq
    generalize px_s1 lv 2 (oI (-1)) = lv2 at l0 l1 l2 ⊢
    show t_X d 48 14 lv2 [] g1 P
    refine t_0 vcm_14 rfl (ld_i l2) ?_
    refine t_0 vcm_15 rfl rfl ?_
    refine tb_ne vcm_16 (by decide) ⟨by omega, by omega⟩ ⟨by omega, by omega⟩ (fun c3 => absurd c3 (by omega)) (fun c3 => ?_)
    show t_X d 48 19 lv2 [] g1 P
    refine t_0 vcm_19 rfl (ld_a l0) ?_
    refine t_0 vcm_20 rfl rfl ?_
    refine t_3 vcm_21 rfl (ar := ([pvR 154, oI 1], [])) (pcal_w (as := [oI 1]) rfl rfl rfl leo_154) ⟨by omega, Nat.le_of_ble_eq_true rfl, Nat.le_of_ble_eq_true rfl, rfl⟩ ?_
    refine vfn_run hK hB hS1 (by omega) ?_ rfl
    show t_X d 48 24 lv2 [] g1 P
    refine t_5 vcm_24 rfl rfl ?_
    exact hF _ _ _ _ _ _ hS1 (by omega) (lx_C1 hLP t1)
  · replace hS1 : lS K g0 g1 p1 0 k1 c o1 v1 le st co en := hS1
    have R1 := Q1
    unfold lQ at R1
    show t_X d 48 5 lv [] g1 P
    refine t_0 vcm_5 rfl (ld_a l0) ?_
    refine t_0 vcm_6 rfl rfl ?_
    refine t_0 vcm_8 rfl (pq_b (by decide)) ?_
    refine t_3 vcm_10 rfl (ar := ([pvR 154, pvR 1002, oI 7], [])) (pcal_w (as := [oI 7, pvR 1002]) rfl rfl rfl leo_154) ⟨by omega, Nat.le_of_ble_eq_true rfl, Nat.le_of_ble_eq_true rfl, rfl⟩ ?_
    refine vo1_run hK (by omega) hB hS1 ?_ rfl rfl rfl
    have b5 := hH p1 (by omega)
    have z5 := tH_n (B := B) (n := n) (p := p1)
    have w6 := lC3_b (tH B n p1)
    show t_X d 48 13 lv [oI (lC3 (tH B n p1))] g1 P
    refine t_2 vcm_13 rfl (w := (px_s1 lv 2 (oI (lC3 (tH B n p1))), [])) rfl ?_
    replace l0 : px_lg (px_s1 lv 2 (oI (lC3 (tH B n p1)))) 0 = some (pvR 154) := s1_ne (by decide) (fun _ => rfl) l0
    replace l1 : px_lg (px_s1 lv 2 (oI (lC3 (tH B n p1)))) 1 = some (oI ((δ : Int))) := s1_ne (by decide) (fun _ => rfl) l1
    have l2 : px_lg (px_s1 lv 2 (oI (lC3 (tH B n p1)))) 2 = some (oI (lC3 (tH B n p1))) := s1_eq
    generalize px_s1 lv 2 (oI (lC3 (tH B n p1))) = lv7 at l0 l1 l2 ⊢
    show t_X d 48 14 lv7 [] g1 P
    refine t_0 vcm_14 rfl (ld_i l2) ?_
    refine t_0 vcm_15 rfl rfl ?_
    refine tb_ne vcm_16 (by decide) ⟨by omega, by omega⟩ ⟨by omega, by omega⟩ (fun c8 => ?_) (fun c8 => ?_)
    · show t_X d 48 25 lv7 [] g1 P
      refine t_0 vcm_25 rfl (ld_a l0) ?_
      refine t_0 vcm_26 rfl rfl ?_
      refine t_0 vcm_27 rfl (pq_cv leo_154 rfl (show cF g1 154 2 = p1 from S_f hS1 0 (Nat.le_of_ble_eq_true rfl))) ?_
      show t_X d 48 30 lv7 [oI (p1), pvR 154] g1 P
      refine t_0 vcm_30 rfl rfl ?_
      refine t_0 vcm_31 rfl pq_add ?_
      refine ts_f (n := 0) rfl rfl (lk_f0 hK) vcm_32 rfl leo_154 hS1 (lk_w0 hK) lgy_154_2 (by decide) ⟨by omega, by omega⟩ (fun g9 hS9 => ?_)
      replace hS9 : lS K g0 g9 (p1 + 1) 0 k1 c o1 v1 le st co en := hS9
      show t_X d 48 35 lv7 [] g9 P
      refine t_0 vcm_35 rfl (ld_a l0) ?_
      refine t_0 vcm_36 rfl (ld_i l1) ?_
      refine t_3 vcm_37 rfl (ar := ([pvR 154, oI ((δ : Int))], [])) (pcal_w (as := [oI ((δ : Int))]) rfl rfl rfl leo_154) ⟨by omega, Nat.le_of_ble_eq_true rfl, Nat.le_of_ble_eq_true rfl, rfl⟩ ?_
      refine hSu _ (by omega) _ _ _ _ _ _ _ _ _ _ hS9 ⟨by omega, by omega, by omega, by omega⟩ _ (fun g10 f10 p10 k10 o10 v10 hS10 u10 t10 => ?_) (fun g10 p10 k10 o10 v10 hS10 Q10 t10 => ?_) _ rfl rfl
      · replace hS10 : lS K g0 g10 p10 f10 k10 c o10 v10 le st co en := hS10
        have m10 := lc_m hB hK hS10
        show t_X d 48 40 lv7 [] g10 P
        refine t_0 vcm_40 rfl (ld_a l0) ?_
        refine t_0 vcm_41 rfl (pq_ro leo_154 rfl (lc_c hB hK hS10)) ?_
        show t_X d 48 44 lv7 [pvR K] g10 P
        refine t_0 vcm_44 rfl (ld_i l2) ?_
        refine t_0 vcm_45 rfl rfl ?_
        refine t_3 vcm_46 rfl (ar := ([pvR K, oI (lC3 (tH B n p1)), oI 0], [])) (pcal_w (as := [oI 0, oI (lC3 (tH B n p1))]) rfl rfl rfl (lk_e hK)) ⟨by omega, Nat.le_of_ble_eq_true rfl, Nat.le_of_ble_eq_true rfl, rfl⟩ ?_
        refine vem_run hK hB hS10 ⟨by omega, by omega⟩ ⟨by omega, by omega⟩ (fun t11 g11 hS11 => ?_) (fun t11 => ?_) rfl rfl rfl
        · replace hS11 : lS K g0 g11 p10 f10 (k10 + 1) c (updI o10 k10.toNat (lC3 (tH B n p1))) (updI v10 k10.toNat 0) le st co en := hS11
          show t_X d 48 49 lv7 [oI (k10)] g11 P
          refine t_0 vcm_49 rfl rfl ?_
          refine t_5 vcm_50 rfl rfl ?_
          exact hF _ _ _ _ _ _ hS11 (by omega) (lx_C3 hLP t1 ⟨by omega, by omega, by omega, by omega⟩ (by omega) t10)
        · show t_X d 48 49 lv7 [oI (-1)] g10 P
          refine t_0 vcm_49 rfl rfl ?_
          refine t_5 vcm_50 rfl rfl ?_
          exact hF _ _ _ _ _ _ hS10 (by omega) (lx_C3 hLP t1 ⟨by omega, by omega, by omega, by omega⟩ (by omega) t10)
      · replace hS10 : lS K g0 g10 p10 0 k10 c o10 v10 le st co en := hS10
        have R10 := Q10
        unfold lQ at R10
        show t_X d 48 40 lv7 [] g10 P
        refine t_0 vcm_40 rfl (ld_a l0) ?_
        refine t_0 vcm_41 rfl (pq_ro leo_154 rfl (lc_c hB hK hS10)) ?_
        show t_X d 48 44 lv7 [pvR K] g10 P
        refine t_0 vcm_44 rfl (ld_i l2) ?_
        refine t_0 vcm_45 rfl rfl ?_
        refine t_3 vcm_46 rfl (ar := ([pvR K, oI (lC3 (tH B n p1)), oI 0], [])) (pcal_w (as := [oI 0, oI (lC3 (tH B n p1))]) rfl rfl rfl (lk_e hK)) ⟨by omega, Nat.le_of_ble_eq_true rfl, Nat.le_of_ble_eq_true rfl, rfl⟩ ?_
        refine vem_run hK hB hS10 ⟨by omega, by omega⟩ ⟨by omega, by omega⟩ (fun _ g12 hS12 => ?_) (fun t12 => absurd t12 (by omega)) rfl rfl rfl
        replace hS12 : lS K g0 g12 p10 0 (k10 + 1) c (updI o10 k10.toNat (lC3 (tH B n p1))) (updI v10 k10.toNat 0) le st co en := hS12
        show t_X d 48 49 lv7 [oI (k10)] g12 P
        refine t_0 vcm_49 rfl rfl ?_
        refine t_5 vcm_50 rfl rfl ?_
        exact hO _ _ _ _ _ hS12 ⟨by omega, by omega, by omega, by omega, by omega, by omega, by omega⟩ (lx_C4 hLP t1 ⟨by omega, by omega, by omega, by omega⟩ (by omega) t10 ⟨by omega, by omega, by omega, by omega⟩)
    · show t_X d 48 19 lv7 [] g1 P
      refine t_0 vcm_19 rfl (ld_a l0) ?_
      refine t_0 vcm_20 rfl rfl ?_
      refine t_3 vcm_21 rfl (ar := ([pvR 154, oI 1], [])) (pcal_w (as := [oI 1]) rfl rfl rfl leo_154) ⟨by omega, Nat.le_of_ble_eq_true rfl, Nat.le_of_ble_eq_true rfl, rfl⟩ ?_
      refine vfl_run hK hB hS1 ⟨by omega, by omega⟩ (fun g13 hS13 => ?_) rfl rfl
      replace hS13 : lS K g0 g13 p1 (-1000 * 1 - p1) k1 c o1 v1 le st co en := hS13
      show t_X d 48 24 lv7 [] g13 P
      refine t_5 vcm_24 rfl rfl ?_
      rw [show -1000 * 1 - p1 = -1000 - p1 by omega] at hS13
      exact hF _ _ _ _ _ _ hS13 (by omega) (lx_C2 hLP t1 ⟨by omega, by omega, by omega, by omega⟩ (by omega))
set_option maxHeartbeats 4000000 in
theorem vPi {K : Nat} (hK : lK K) {g0 : pH} {B : tC} {n : Int} (hB : lB K g0 B n) {δ : Nat} (hδ : δ ≤ 6) (hCm : lSt K g0 B n 48 5 (13 + 3 * (6 - δ)) δ) (hPi : δ < 6 → lSt K g0 B n 53 6 (34 + 3 * (5 - δ)) (δ + 1)) (hCo : δ < 6 → lSt K g0 B n 49 10 (36 + 3 * (5 - δ)) (δ + 1)) : lSt K g0 B n 53 6 (34 + 3 * (6 - δ)) δ := by
  intro d hd g p k c o v le st co en hS hLP P hF hO lv l0 l1
  obtain ⟨hn, hp, hf, hk, hc, hH⟩ := lc_m hB hK hS
  have hP := hLP
  unfold lP at hP
  refine t_0 vpi_0 rfl (ld_a l0) ?_
  refine t_0 vpi_1 rfl (pq_cv leo_154 rfl (show cF g 154 3 = 0 from S_f hS 1 (Nat.le_of_ble_eq_true rfl))) ?_
  show t_X d 53 4 lv [oI 0] g P
  refine tz_eq vpi_4 (by decide) ⟨by omega, by omega⟩ (fun c1 => ?_) (fun c1 => absurd c1 (by omega))
  show t_X d 53 8 lv [] g P
  refine t_0 vpi_8 rfl (ld_a l0) ?_
  refine t_3 vpi_9 rfl (ar := ([pvR 154], [])) (pcal_w (as := []) rfl rfl rfl leo_154) ⟨by omega, Nat.le_of_ble_eq_true rfl, Nat.le_of_ble_eq_true rfl, rfl⟩ ?_
  refine vsg_run hK hB hS ?_ rfl
  have b2 := hH p (by omega)
  have z2 := tH_n (B := B) (n := n) (p := p)
  show t_X d 53 12 lv [oI (tH B n p)] g P
  refine t_0 vpi_12 rfl (pq_b (by decide)) ?_
  refine tb_ne vpi_14 (by decide) ⟨by omega, by omega⟩ ⟨by omega, by omega⟩ (fun c3 => ?_) (fun c3 => ?_)
  · show t_X d 53 46 lv [] g P
    refine t_0 vpi_46 rfl (ld_a l0) ?_
    refine t_3 vpi_47 rfl (ar := ([pvR 154], [])) (pcal_w (as := []) rfl rfl rfl leo_154) ⟨by omega, Nat.le_of_ble_eq_true rfl, Nat.le_of_ble_eq_true rfl, rfl⟩ ?_
    refine vsg_run hK hB hS ?_ rfl
    show t_X d 53 50 lv [oI (tH B n p)] g P
    refine t_0 vpi_50 rfl (pq_b (by decide)) ?_
    refine tb_ne vpi_52 (by decide) ⟨by omega, by omega⟩ ⟨by omega, by omega⟩ (fun c4 => ?_) (fun c4 => ?_)
    · show t_X d 53 79 lv [] g P
      refine t_0 vpi_79 rfl (ld_a l0) ?_
      refine t_0 vpi_80 rfl (ld_i l1) ?_
      refine t_3 vpi_81 rfl (ar := ([pvR 154, oI ((δ : Int))], [])) (pcal_w (as := [oI ((δ : Int))]) rfl rfl rfl leo_154) ⟨by omega, Nat.le_of_ble_eq_true rfl, Nat.le_of_ble_eq_true rfl, rfl⟩ ?_
      refine hCm _ (by omega) _ _ _ _ _ _ _ _ _ _ hS ⟨by omega, by omega, by omega, by omega⟩ _ (fun g5 f5 p5 k5 o5 v5 hS5 u5 t5 => ?_) (fun g5 p5 k5 o5 v5 hS5 Q5 t5 => ?_) _ rfl rfl
      · replace hS5 : lS K g0 g5 p5 f5 k5 c o5 v5 le st co en := hS5
        have m5 := lc_m hB hK hS5
        show t_X d 53 84 lv [] g5 P
        refine t_5 vpi_84 rfl rfl ?_
        exact hF _ _ _ _ _ _ hS5 (by omega) (lx_P8 hLP (by omega) (by omega) t5)
      · replace hS5 : lS K g0 g5 p5 0 k5 c o5 v5 le st co en := hS5
        have R5 := Q5
        unfold lQ at R5
        show t_X d 53 84 lv [] g5 P
        refine t_5 vpi_84 rfl rfl ?_
        exact hO _ _ _ _ _ hS5 ⟨by omega, by omega, by omega, by omega, by omega, by omega, by omega⟩ (lx_P8 hLP (by omega) (by omega) t5)
    · show t_X d 53 55 lv [] g P
      refine t_0 vpi_55 rfl (ld_a l0) ?_
      refine t_0 vpi_56 rfl (ld_i l1) ?_
      refine t_3 vpi_57 rfl (ar := ([pvR 154, oI ((δ : Int))], [])) (pcal_w (as := [oI ((δ : Int))]) rfl rfl rfl leo_154) ⟨by omega, Nat.le_of_ble_eq_true rfl, Nat.le_of_ble_eq_true rfl, rfl⟩ ?_
      refine vop_run hK (by omega) hB hS (by omega) (by omega) (fun t6 g6 hS6 => ?_) (fun t6 g6 hS6 => ?_) rfl rfl
      · replace hS6 : lS K g0 g6 (p + 1) 0 k c o v le st co en := hS6
        show t_X d 53 60 lv [oI 1] g6 P
        refine tz_eq vpi_60 (by decide) ⟨by omega, by omega⟩ (fun c7 => absurd c7 (by omega)) (fun c7 => ?_)
        show t_X d 53 63 lv [] g6 P
        refine t_0 vpi_63 rfl (ld_a l0) ?_
        refine t_0 vpi_64 rfl (ld_i l1) ?_
        refine t_0 vpi_65 rfl rfl ?_
        refine t_0 vpi_66 rfl pq_add ?_
        refine t_3 vpi_67 rfl (ar := ([pvR 154, oI ((δ : Int) + 1)], [])) (pcal_w (as := [oI ((δ : Int) + 1)]) rfl rfl rfl leo_154) ⟨by omega, Nat.le_of_ble_eq_true rfl, Nat.le_of_ble_eq_true rfl, rfl⟩ ?_
        refine hCo (by omega) _ (by omega) _ _ _ _ _ _ _ _ _ _ hS6 ⟨by omega, by omega, by omega, by omega⟩ _ (fun g8 f8 p8 k8 o8 v8 hS8 u8 t8 => ?_) (fun g8 p8 k8 o8 v8 hS8 Q8 t8 => ?_) _ rfl (congrArg (fun x => some (oI x)) (show (δ : Int) + 1 = ((δ + 1 : Nat) : Int) by omega))
        · replace hS8 : lS K g0 g8 p8 f8 k8 c o8 v8 le st co en := hS8
          have m8 := lc_m hB hK hS8
          show t_X d 53 70 lv [] g8 P
          refine t_0 vpi_70 rfl (ld_a l0) ?_
          refine t_0 vpi_71 rfl (pq_b (by decide)) ?_
          refine t_3 vpi_73 rfl (ar := ([pvR 154, oI 41], [])) (pcal_w (as := [oI 41]) rfl rfl rfl leo_154) ⟨by omega, Nat.le_of_ble_eq_true rfl, Nat.le_of_ble_eq_true rfl, rfl⟩ ?_
          refine vxn_run hK hB hS8 (by omega) (fun g9 hS9 => ?_) rfl
          replace hS9 : lS K g0 g9 p8 f8 k8 c o8 v8 le st co en := hS9
          show t_X d 53 76 lv [] g9 P
          refine t_1 vpi_76 rfl (pb_goto (pc := 76) (by decide)) ?_
          show t_X d 53 84 lv [] g9 P
          refine t_5 vpi_84 rfl rfl ?_
          exact hF _ _ _ _ _ _ hS9 (by omega) (lx_P5 hLP (by omega) (by omega) t8)
        · replace hS8 : lS K g0 g8 p8 0 k8 c o8 v8 le st co en := hS8
          have R8 := Q8
          unfold lQ at R8
          show t_X d 53 70 lv [] g8 P
          refine t_0 vpi_70 rfl (ld_a l0) ?_
          refine t_0 vpi_71 rfl (pq_b (by decide)) ?_
          refine t_3 vpi_73 rfl (ar := ([pvR 154, oI 41], [])) (pcal_w (as := [oI 41]) rfl rfl rfl leo_154) ⟨by omega, Nat.le_of_ble_eq_true rfl, Nat.le_of_ble_eq_true rfl, rfl⟩ ?_
          have b10 := hH p8 (by omega)
          have z10 := tH_n (B := B) (n := n) (p := p8)
          refine vex_run hK (by omega) hB hS8 ⟨by omega, by omega⟩ (fun t10 g10 hS10 => ?_) (fun t10 g10 hS10 => ?_) rfl rfl
          · replace hS10 : lS K g0 g10 (p8 + 1) 0 k8 c o8 v8 le st co en := hS10
            show t_X d 53 76 lv [] g10 P
            refine t_1 vpi_76 rfl (pb_goto (pc := 76) (by decide)) ?_
            show t_X d 53 84 lv [] g10 P
            refine t_5 vpi_84 rfl rfl ?_
            exact hO _ _ _ _ _ hS10 ⟨by omega, by omega, by omega, by omega, by omega, by omega, by omega⟩ (lx_P7 hLP (by omega) (by omega) t8 ⟨by omega, by omega, by omega, by omega⟩ (by omega))
          · replace hS10 : lS K g0 g10 p8 (-1000 - p8) k8 c o8 v8 le st co en := hS10
            show t_X d 53 76 lv [] g10 P
            refine t_1 vpi_76 rfl (pb_goto (pc := 76) (by decide)) ?_
            show t_X d 53 84 lv [] g10 P
            refine t_5 vpi_84 rfl rfl ?_
            exact hF _ _ _ _ _ _ hS10 (by omega) (lx_P6 hLP (by omega) (by omega) t8 ⟨by omega, by omega, by omega, by omega⟩ (by omega))
      · replace hS6 : lS K g0 g6 p (-5000 - p) k c o v le st co en := hS6
        show t_X d 53 60 lv [oI 0] g6 P
        refine tz_eq vpi_60 (by decide) ⟨by omega, by omega⟩ (fun c11 => ?_) (fun c11 => absurd c11 (by omega))
        show t_X d 53 84 lv [] g6 P
        refine t_5 vpi_84 rfl rfl ?_
        exact hF _ _ _ _ _ _ hS6 (by omega) (lx_P4 hLP (by omega) (by omega))
  · show t_X d 53 17 lv [] g P
    refine t_0 vpi_17 rfl (ld_a l0) ?_
    refine t_0 vpi_18 rfl (ld_i l1) ?_
    refine t_3 vpi_19 rfl (ar := ([pvR 154, oI ((δ : Int))], [])) (pcal_w (as := [oI ((δ : Int))]) rfl rfl rfl leo_154) ⟨by omega, Nat.le_of_ble_eq_true rfl, Nat.le_of_ble_eq_true rfl, rfl⟩ ?_
    refine vop_run hK (by omega) hB hS (by omega) (by omega) (fun t12 g12 hS12 => ?_) (fun t12 g12 hS12 => ?_) rfl rfl
    · replace hS12 : lS K g0 g12 (p + 1) 0 k c o v le st co en := hS12
      show t_X d 53 22 lv [oI 1] g12 P
      refine tz_eq vpi_22 (by decide) ⟨by omega, by omega⟩ (fun c13 => absurd c13 (by omega)) (fun c13 => ?_)
      show t_X d 53 25 lv [] g12 P
      refine t_0 vpi_25 rfl (ld_a l0) ?_
      refine t_0 vpi_26 rfl (ld_i l1) ?_
      refine t_0 vpi_27 rfl rfl ?_
      refine t_0 vpi_28 rfl pq_add ?_
      refine t_3 vpi_29 rfl (ar := ([pvR 154, oI ((δ : Int) + 1)], [])) (pcal_w (as := [oI ((δ : Int) + 1)]) rfl rfl rfl leo_154) ⟨by omega, Nat.le_of_ble_eq_true rfl, Nat.le_of_ble_eq_true rfl, rfl⟩ ?_
      refine hPi (by omega) _ (by omega) _ _ _ _ _ _ _ _ _ _ hS12 ⟨by omega, by omega, by omega, by omega⟩ _ (fun g14 f14 p14 k14 o14 v14 hS14 u14 t14 => ?_) (fun g14 p14 k14 o14 v14 hS14 Q14 t14 => ?_) _ rfl (congrArg (fun x => some (oI x)) (show (δ : Int) + 1 = ((δ + 1 : Nat) : Int) by omega))
      · replace hS14 : lS K g0 g14 p14 f14 k14 c o14 v14 le st co en := hS14
        have m14 := lc_m hB hK hS14
        show t_X d 53 32 lv [] g14 P
        refine t_0 vpi_32 rfl (ld_a l0) ?_
        refine t_0 vpi_33 rfl (pq_ro leo_154 rfl (lc_c hB hK hS14)) ?_
        show t_X d 53 36 lv [pvR K] g14 P
        refine t_0 vpi_36 rfl (pq_b (by decide)) ?_
        refine t_0 vpi_38 rfl rfl ?_
        refine t_3 vpi_39 rfl (ar := ([pvR K, oI 10, oI 0], [])) (pcal_w (as := [oI 0, oI 10]) rfl rfl rfl (lk_e hK)) ⟨by omega, Nat.le_of_ble_eq_true rfl, Nat.le_of_ble_eq_true rfl, rfl⟩ ?_
        refine vem_run hK hB hS14 ⟨by omega, by omega⟩ ⟨by omega, by omega⟩ (fun t15 g15 hS15 => ?_) (fun t15 => ?_) rfl rfl rfl
        · replace hS15 : lS K g0 g15 p14 f14 (k14 + 1) c (updI o14 k14.toNat 10) (updI v14 k14.toNat 0) le st co en := hS15
          show t_X d 53 42 lv [oI (k14)] g15 P
          refine t_0 vpi_42 rfl rfl ?_
          refine t_1 vpi_43 rfl (pb_goto (pc := 43) (by decide)) ?_
          show t_X d 53 84 lv [] g15 P
          refine t_5 vpi_84 rfl rfl ?_
          exact hF _ _ _ _ _ _ hS15 (by omega) (lx_P2 hLP (by omega) (by omega) t14)
        · show t_X d 53 42 lv [oI (-1)] g14 P
          refine t_0 vpi_42 rfl rfl ?_
          refine t_1 vpi_43 rfl (pb_goto (pc := 43) (by decide)) ?_
          show t_X d 53 84 lv [] g14 P
          refine t_5 vpi_84 rfl rfl ?_
          exact hF _ _ _ _ _ _ hS14 (by omega) (lx_P2 hLP (by omega) (by omega) t14)
      · replace hS14 : lS K g0 g14 p14 0 k14 c o14 v14 le st co en := hS14
        have R14 := Q14
        unfold lQ at R14
        show t_X d 53 32 lv [] g14 P
        refine t_0 vpi_32 rfl (ld_a l0) ?_
        refine t_0 vpi_33 rfl (pq_ro leo_154 rfl (lc_c hB hK hS14)) ?_
        show t_X d 53 36 lv [pvR K] g14 P
        refine t_0 vpi_36 rfl (pq_b (by decide)) ?_
        refine t_0 vpi_38 rfl rfl ?_
        refine t_3 vpi_39 rfl (ar := ([pvR K, oI 10, oI 0], [])) (pcal_w (as := [oI 0, oI 10]) rfl rfl rfl (lk_e hK)) ⟨by omega, Nat.le_of_ble_eq_true rfl, Nat.le_of_ble_eq_true rfl, rfl⟩ ?_
        refine vem_run hK hB hS14 ⟨by omega, by omega⟩ ⟨by omega, by omega⟩ (fun _ g16 hS16 => ?_) (fun t16 => absurd t16 (by omega)) rfl rfl rfl
        replace hS16 : lS K g0 g16 p14 0 (k14 + 1) c (updI o14 k14.toNat 10) (updI v14 k14.toNat 0) le st co en := hS16
        show t_X d 53 42 lv [oI (k14)] g16 P
        refine t_0 vpi_42 rfl rfl ?_
        refine t_1 vpi_43 rfl (pb_goto (pc := 43) (by decide)) ?_
        show t_X d 53 84 lv [] g16 P
        refine t_5 vpi_84 rfl rfl ?_
        exact hO _ _ _ _ _ hS16 ⟨by omega, by omega, by omega, by omega, by omega, by omega, by omega⟩ (lx_P3 hLP (by omega) (by omega) t14 ⟨by omega, by omega, by omega, by omega⟩)
    · replace hS12 : lS K g0 g12 p (-5000 - p) k c o v le st co en := hS12
      show t_X d 53 22 lv [oI 0] g12 P
      refine tz_eq vpi_22 (by decide) ⟨by omega, by omega⟩ (fun c17 => ?_) (fun c17 => absurd c17 (by omega))
      show t_X d 53 84 lv [] g12 P
      refine t_5 vpi_84 rfl rfl ?_
      exact hF _ _ _ _ _ _ hS12 (by omega) (lx_P1 hLP (by omega) (by omega))
theorem vpa_x {d : Nat} {K : Nat} (hK : lK K) {g0 g : pH} {B : tC} {n : Int} (hB : lB K g0 B n) {p f k c : Int} {o v le st co en : tC} (hS : lS K g0 g p f k c o v le st co en) (hf0 : f < 0) {j : Int} (hj : 0 ≤ j ∧ j ≤ 1000) {P : Option pv × pH → Prop} (hP : P (none, g)) {lv : List (Nat × pv)} (l0 : px_lg lv 0 = some (pvR 154)) (l2 : px_lg lv 2 = some (oI j)) : t_X d 52 7 lv [] g P := by
  obtain ⟨hn, hp, hf, hk, hc, hH⟩ := lc_m hB hK hS
  refine t_0 vpa_7 rfl (ld_i l2) ?_
  refine t_0 vpa_8 rfl (pq_s (by decide)) ?_
  refine tb_ge vpa_11 (by decide) ⟨by omega, by omega⟩ ⟨by omega, by omega⟩ (fun c1 => ?_) (fun c1 => ?_)
  · show t_X d 52 70 lv [] g P
    refine t_5 vpa_70 rfl rfl ?_
    exact hP
  · show t_X d 52 14 lv [] g P
    refine t_0 vpa_14 rfl (ld_a l0) ?_
    refine t_0 vpa_15 rfl (pq_cv leo_154 rfl (show cF g 154 3 = f from S_f hS 1 (Nat.le_of_ble_eq_true rfl))) ?_
    show t_X d 52 18 lv [oI (f)] g P
    refine tz_ne vpa_18 (by decide) ⟨by omega, by omega⟩ (fun c2 => ?_) (fun c2 => absurd c2 (by omega))
    show t_X d 52 70 lv [] g P
    refine t_5 vpa_70 rfl rfl ?_
    exact hP
set_option maxHeartbeats 4000000 in
theorem vpa_l {K : Nat} (hK : lK K) {g0 : pH} {B : tC} {n : Int} (hB : lB K g0 B n) {δ : Nat} (hδ : δ ≤ 6) (hFa : lSt K g0 B n 53 6 (34 + 3 * (6 - δ)) δ) {d : Nat} (hd : 35 + 3 * (6 - δ) ≤ d) {c : Int} {le st co en : tC} : ∀ (y j : Nat) (g : pH) (lv : List (Nat × pv)) (p k : Int) (o v : tC) (P : Option pv × pH → Prop), n - p ≤ y → (j : Int) < p → lS K g0 g p 0 k c o v le st co en → lP n p k → (∀ (g1 : pH) (f p1 k1 : Int) (o1 v1 : tC), lS K g0 g1 p1 f k1 c o1 v1 le st co en → f < 0 → lI (tH B n) n 7 δ p k o v (.inl f) → P (none, g1)) → (∀ (g1 : pH) (p1 k1 : Int) (o1 v1 : tC), lS K g0 g1 p1 0 k1 c o1 v1 le st co en → lQl n p k p1 k1 → lI (tH B n) n 7 δ p k o v (.inr (p1, k1, o1, v1)) → P (none, g1)) → px_lg lv 0 = some (pvR 154) → px_lg lv 1 = some (oI (δ : Int)) → px_lg lv 2 = some (oI (j : Int)) → t_X d 52 7 lv [] g P := by
  intro y
  induction y with
  | zero =>
    intro j g lv p k o v P hy hj hS hLP hF hO l0 l1 l2
    obtain ⟨hn, hp, hf, hk, hc, hH⟩ := lc_m hB hK hS
    have hP := hLP
    unfold lP at hP
    refine t_0 vpa_7 rfl (ld_i l2) ?_
    refine t_0 vpa_8 rfl (pq_s (by decide)) ?_
    refine tb_ge vpa_11 (by decide) ⟨by omega, by omega⟩ ⟨by omega, by omega⟩ (fun c1 => absurd c1 (by omega)) (fun c1 => ?_)
    show t_X d 52 14 lv [] g P
    refine t_0 vpa_14 rfl (ld_a l0) ?_
    refine t_0 vpa_15 rfl (pq_cv leo_154 rfl (show cF g 154 3 = 0 from S_f hS 1 (Nat.le_of_ble_eq_true rfl))) ?_
    show t_X d 52 18 lv [oI 0] g P
    refine tz_ne vpa_18 (by decide) ⟨by omega, by omega⟩ (fun c2 => absurd c2 (by omega)) (fun c2 => ?_)
    show t_X d 52 21 lv [] g P
    refine t_0 vpa_21 rfl (ld_a l0) ?_
    refine t_3 vpa_22 rfl (ar := ([pvR 154], [])) (pcal_w (as := []) rfl rfl rfl leo_154) ⟨by omega, Nat.le_of_ble_eq_true rfl, Nat.le_of_ble_eq_true rfl, rfl⟩ ?_
    refine vsg_run hK hB hS ?_ rfl
    have b3 := hH p (by omega)
    have z3 := tH_n (B := B) (n := n) (p := p)
    show t_X d 52 25 lv [oI (tH B n p)] g P
    refine t_0 vpa_25 rfl (pq_b (by decide)) ?_
    refine tb_ne vpa_27 (by decide) ⟨by omega, by omega⟩ ⟨by omega, by omega⟩ (fun c4 => ?_) (fun c4 => ?_)
    · show t_X d 52 70 lv [] g P
      refine t_5 vpa_70 rfl rfl ?_
      exact hO _ _ _ _ _ hS ⟨by omega, by omega, by omega, by omega, by omega, by omega, by omega⟩ (lx_A1 hLP (by omega))
    · show t_X d 52 30 lv [] g P
      refine t_0 vpa_30 rfl (ld_a l0) ?_
      refine t_0 vpa_31 rfl rfl ?_
      refine t_0 vpa_32 rfl (pq_cv leo_154 rfl (show cF g 154 2 = p from S_f hS 0 (Nat.le_of_ble_eq_true rfl))) ?_
      show t_X d 52 35 lv [oI (p), pvR 154] g P
      refine t_0 vpa_35 rfl rfl ?_
      refine t_0 vpa_36 rfl pq_add ?_
      refine ts_f (n := 0) rfl rfl (lk_f0 hK) vpa_37 rfl leo_154 hS (lk_w0 hK) lgy_154_2 (by decide) ⟨by omega, by omega⟩ (fun g5 hS5 => ?_)
      replace hS5 : lS K g0 g5 (p + 1) 0 k c o v le st co en := hS5
      show t_X d 52 40 lv [] g5 P
      refine t_0 vpa_40 rfl (ld_a l0) ?_
      refine t_0 vpa_41 rfl (pq_ro leo_154 rfl (lc_c hB hK hS5)) ?_
      show t_X d 52 44 lv [pvR K] g5 P
      refine t_0 vpa_44 rfl (pq_b (by decide)) ?_
      refine t_0 vpa_46 rfl rfl ?_
      refine t_3 vpa_47 rfl (ar := ([pvR K, oI 11, oI 0], [])) (pcal_w (as := [oI 0, oI 11]) rfl rfl rfl (lk_e hK)) ⟨by omega, Nat.le_of_ble_eq_true rfl, Nat.le_of_ble_eq_true rfl, rfl⟩ ?_
      refine vem_run hK hB hS5 ⟨by omega, by omega⟩ ⟨by omega, by omega⟩ (fun _ g6 hS6 => ?_) (fun t6 => absurd t6 (by omega)) rfl rfl rfl
      replace hS6 : lS K g0 g6 (p + 1) 0 (k + 1) c (updI o k.toNat 11) (updI v k.toNat 0) le st co en := hS6
      show t_X d 52 50 lv [oI (k)] g6 P
      refine t_2 vpa_50 rfl (w := (px_s1 lv 3 (oI (k)), [])) rfl ?_
      replace l0 : px_lg (px_s1 lv 3 (oI (k))) 0 = some (pvR 154) := s1_ne (by decide) (fun _ => rfl) l0
      replace l1 : px_lg (px_s1 lv 3 (oI (k))) 1 = some (oI ((δ : Int))) := s1_ne (by decide) (fun _ => rfl) l1
      replace l2 : px_lg (px_s1 lv 3 (oI (k))) 2 = some (oI ((j : Int))) := s1_ne (by decide) (fun _ => rfl) l2
      have l3 : px_lg (px_s1 lv 3 (oI (k))) 3 = some (oI (k)) := s1_eq
      generalize px_s1 lv 3 (oI (k)) = lv7 at l0 l1 l2 l3 ⊢
      show t_X d 52 51 lv7 [] g6 P
      refine t_0 vpa_51 rfl (ld_a l0) ?_
      refine t_0 vpa_52 rfl (ld_i l1) ?_
      refine t_3 vpa_53 rfl (ar := ([pvR 154, oI ((δ : Int))], [])) (pcal_w (as := [oI ((δ : Int))]) rfl rfl rfl leo_154) ⟨by omega, Nat.le_of_ble_eq_true rfl, Nat.le_of_ble_eq_true rfl, rfl⟩ ?_
      refine hFa _ (by omega) _ _ _ _ _ _ _ _ _ _ hS6 ⟨by omega, by omega, by omega, by omega⟩ _ (fun g8 f8 p8 k8 o8 v8 hS8 u8 t8 => ?_) (fun g8 p8 k8 o8 v8 hS8 Q8 t8 => ?_) _ rfl rfl
      · replace hS8 : lS K g0 g8 p8 f8 k8 c o8 v8 le st co en := hS8
        have m8 := lc_m hB hK hS8
        show t_X d 52 56 lv7 [] g8 P
        refine t_0 vpa_56 rfl (ld_a l0) ?_
        refine t_0 vpa_57 rfl (pq_ro leo_154 rfl (lc_c hB hK hS8)) ?_
        show t_X d 52 60 lv7 [pvR K] g8 P
        refine t_0 vpa_60 rfl (ld_i l3) ?_
        refine t_3 vpa_61 rfl (ar := ([pvR K, oI (k)], [])) (pcal_w (as := [oI (k)]) rfl rfl rfl (lk_e hK)) ⟨by omega, Nat.le_of_ble_eq_true rfl, Nat.le_of_ble_eq_true rfl, rfl⟩ ?_
        refine vla_run hK (by omega) hB hS8 ⟨by omega, by omega⟩ (fun t9 g9 hS9 => ?_) (fun t9 => ?_) rfl rfl
        · replace hS9 : lS K g0 g9 p8 f8 k8 c o8 (updI v8 k.toNat k8) le st co en := hS9
          show t_X d 52 64 lv7 [] g9 P
          refine t_2 vpa_64 rfl (w := (px_s1 lv7 2 (oI ((j : Int) + 1)), [])) (pq_inc l2 (by decide)) ?_
          replace l0 : px_lg (px_s1 lv7 2 (oI ((j : Int) + 1))) 0 = some (pvR 154) := s1_ne (by decide) (fun _ => rfl) l0
          replace l1 : px_lg (px_s1 lv7 2 (oI ((j : Int) + 1))) 1 = some (oI ((δ : Int))) := s1_ne (by decide) (fun _ => rfl) l1
          replace l3 : px_lg (px_s1 lv7 2 (oI ((j : Int) + 1))) 3 = some (oI (k)) := s1_ne (by decide) (fun _ => rfl) l3
          have l2 : px_lg (px_s1 lv7 2 (oI ((j : Int) + 1))) 2 = some (oI ((j : Int) + 1)) := s1_eq
          generalize px_s1 lv7 2 (oI ((j : Int) + 1)) = lv10 at l0 l1 l3 l2 ⊢
          show t_X d 52 67 lv10 [] g9 P
          refine t_1 vpa_67 rfl (pb_goto (pc := 67) (by decide)) ?_
          show t_X d 52 7 lv10 [] g9 P
          exact vpa_x hK hB hS9 (by omega) (by omega) (hF _ _ _ _ _ _ hS9 (by omega) (lx_A2 hLP (by omega) t8)) l0 l2
        · show t_X d 52 64 lv7 [] g8 P
          refine t_2 vpa_64 rfl (w := (px_s1 lv7 2 (oI ((j : Int) + 1)), [])) (pq_inc l2 (by decide)) ?_
          replace l0 : px_lg (px_s1 lv7 2 (oI ((j : Int) + 1))) 0 = some (pvR 154) := s1_ne (by decide) (fun _ => rfl) l0
          replace l1 : px_lg (px_s1 lv7 2 (oI ((j : Int) + 1))) 1 = some (oI ((δ : Int))) := s1_ne (by decide) (fun _ => rfl) l1
          replace l3 : px_lg (px_s1 lv7 2 (oI ((j : Int) + 1))) 3 = some (oI (k)) := s1_ne (by decide) (fun _ => rfl) l3
          have l2 : px_lg (px_s1 lv7 2 (oI ((j : Int) + 1))) 2 = some (oI ((j : Int) + 1)) := s1_eq
          generalize px_s1 lv7 2 (oI ((j : Int) + 1)) = lv11 at l0 l1 l3 l2 ⊢
          show t_X d 52 67 lv11 [] g8 P
          refine t_1 vpa_67 rfl (pb_goto (pc := 67) (by decide)) ?_
          show t_X d 52 7 lv11 [] g8 P
          exact vpa_x hK hB hS8 (by omega) (by omega) (hF _ _ _ _ _ _ hS8 (by omega) (lx_A2 hLP (by omega) t8)) l0 l2
      · replace hS8 : lS K g0 g8 p8 0 k8 c o8 v8 le st co en := hS8
        have R8 := Q8
        unfold lQ at R8
        show t_X d 52 56 lv7 [] g8 P
        refine t_0 vpa_56 rfl (ld_a l0) ?_
        refine t_0 vpa_57 rfl (pq_ro leo_154 rfl (lc_c hB hK hS8)) ?_
        show t_X d 52 60 lv7 [pvR K] g8 P
        refine t_0 vpa_60 rfl (ld_i l3) ?_
        refine t_3 vpa_61 rfl (ar := ([pvR K, oI (k)], [])) (pcal_w (as := [oI (k)]) rfl rfl rfl (lk_e hK)) ⟨by omega, Nat.le_of_ble_eq_true rfl, Nat.le_of_ble_eq_true rfl, rfl⟩ ?_
        refine vla_run hK (by omega) hB hS8 ⟨by omega, by omega⟩ (fun t12 g12 hS12 => ?_) (fun t12 => absurd (by omega) t12) rfl rfl
        replace hS12 : lS K g0 g12 p8 0 k8 c o8 (updI v8 k.toNat k8) le st co en := hS12
        show t_X d 52 64 lv7 [] g12 P
        refine t_2 vpa_64 rfl (w := (px_s1 lv7 2 (oI ((j : Int) + 1)), [])) (pq_inc l2 (by decide)) ?_
        replace l0 : px_lg (px_s1 lv7 2 (oI ((j : Int) + 1))) 0 = some (pvR 154) := s1_ne (by decide) (fun _ => rfl) l0
        replace l1 : px_lg (px_s1 lv7 2 (oI ((j : Int) + 1))) 1 = some (oI ((δ : Int))) := s1_ne (by decide) (fun _ => rfl) l1
        replace l3 : px_lg (px_s1 lv7 2 (oI ((j : Int) + 1))) 3 = some (oI (k)) := s1_ne (by decide) (fun _ => rfl) l3
        have l2 : px_lg (px_s1 lv7 2 (oI ((j : Int) + 1))) 2 = some (oI ((j : Int) + 1)) := s1_eq
        generalize px_s1 lv7 2 (oI ((j : Int) + 1)) = lv13 at l0 l1 l3 l2 ⊢
        show t_X d 52 67 lv13 [] g12 P
        refine t_1 vpa_67 rfl (pb_goto (pc := 67) (by decide)) ?_
        show t_X d 52 7 lv13 [] g12 P
        exfalso
        omega
  | succ y ih =>
    intro j g lv p k o v P hy hj hS hLP hF hO l0 l1 l2
    obtain ⟨hn, hp, hf, hk, hc, hH⟩ := lc_m hB hK hS
    have hP := hLP
    unfold lP at hP
    refine t_0 vpa_7 rfl (ld_i l2) ?_
    refine t_0 vpa_8 rfl (pq_s (by decide)) ?_
    refine tb_ge vpa_11 (by decide) ⟨by omega, by omega⟩ ⟨by omega, by omega⟩ (fun c1 => absurd c1 (by omega)) (fun c1 => ?_)
    show t_X d 52 14 lv [] g P
    refine t_0 vpa_14 rfl (ld_a l0) ?_
    refine t_0 vpa_15 rfl (pq_cv leo_154 rfl (show cF g 154 3 = 0 from S_f hS 1 (Nat.le_of_ble_eq_true rfl))) ?_
    show t_X d 52 18 lv [oI 0] g P
    refine tz_ne vpa_18 (by decide) ⟨by omega, by omega⟩ (fun c2 => absurd c2 (by omega)) (fun c2 => ?_)
    show t_X d 52 21 lv [] g P
    refine t_0 vpa_21 rfl (ld_a l0) ?_
    refine t_3 vpa_22 rfl (ar := ([pvR 154], [])) (pcal_w (as := []) rfl rfl rfl leo_154) ⟨by omega, Nat.le_of_ble_eq_true rfl, Nat.le_of_ble_eq_true rfl, rfl⟩ ?_
    refine vsg_run hK hB hS ?_ rfl
    have b3 := hH p (by omega)
    have z3 := tH_n (B := B) (n := n) (p := p)
    show t_X d 52 25 lv [oI (tH B n p)] g P
    refine t_0 vpa_25 rfl (pq_b (by decide)) ?_
    refine tb_ne vpa_27 (by decide) ⟨by omega, by omega⟩ ⟨by omega, by omega⟩ (fun c4 => ?_) (fun c4 => ?_)
    · show t_X d 52 70 lv [] g P
      refine t_5 vpa_70 rfl rfl ?_
      exact hO _ _ _ _ _ hS ⟨by omega, by omega, by omega, by omega, by omega, by omega, by omega⟩ (lx_A1 hLP (by omega))
    · show t_X d 52 30 lv [] g P
      refine t_0 vpa_30 rfl (ld_a l0) ?_
      refine t_0 vpa_31 rfl rfl ?_
      refine t_0 vpa_32 rfl (pq_cv leo_154 rfl (show cF g 154 2 = p from S_f hS 0 (Nat.le_of_ble_eq_true rfl))) ?_
      show t_X d 52 35 lv [oI (p), pvR 154] g P
      refine t_0 vpa_35 rfl rfl ?_
      refine t_0 vpa_36 rfl pq_add ?_
      refine ts_f (n := 0) rfl rfl (lk_f0 hK) vpa_37 rfl leo_154 hS (lk_w0 hK) lgy_154_2 (by decide) ⟨by omega, by omega⟩ (fun g5 hS5 => ?_)
      replace hS5 : lS K g0 g5 (p + 1) 0 k c o v le st co en := hS5
      show t_X d 52 40 lv [] g5 P
      refine t_0 vpa_40 rfl (ld_a l0) ?_
      refine t_0 vpa_41 rfl (pq_ro leo_154 rfl (lc_c hB hK hS5)) ?_
      show t_X d 52 44 lv [pvR K] g5 P
      refine t_0 vpa_44 rfl (pq_b (by decide)) ?_
      refine t_0 vpa_46 rfl rfl ?_
      refine t_3 vpa_47 rfl (ar := ([pvR K, oI 11, oI 0], [])) (pcal_w (as := [oI 0, oI 11]) rfl rfl rfl (lk_e hK)) ⟨by omega, Nat.le_of_ble_eq_true rfl, Nat.le_of_ble_eq_true rfl, rfl⟩ ?_
      refine vem_run hK hB hS5 ⟨by omega, by omega⟩ ⟨by omega, by omega⟩ (fun _ g6 hS6 => ?_) (fun t6 => absurd t6 (by omega)) rfl rfl rfl
      replace hS6 : lS K g0 g6 (p + 1) 0 (k + 1) c (updI o k.toNat 11) (updI v k.toNat 0) le st co en := hS6
      show t_X d 52 50 lv [oI (k)] g6 P
      refine t_2 vpa_50 rfl (w := (px_s1 lv 3 (oI (k)), [])) rfl ?_
      replace l0 : px_lg (px_s1 lv 3 (oI (k))) 0 = some (pvR 154) := s1_ne (by decide) (fun _ => rfl) l0
      replace l1 : px_lg (px_s1 lv 3 (oI (k))) 1 = some (oI ((δ : Int))) := s1_ne (by decide) (fun _ => rfl) l1
      replace l2 : px_lg (px_s1 lv 3 (oI (k))) 2 = some (oI ((j : Int))) := s1_ne (by decide) (fun _ => rfl) l2
      have l3 : px_lg (px_s1 lv 3 (oI (k))) 3 = some (oI (k)) := s1_eq
      generalize px_s1 lv 3 (oI (k)) = lv7 at l0 l1 l2 l3 ⊢
      show t_X d 52 51 lv7 [] g6 P
      refine t_0 vpa_51 rfl (ld_a l0) ?_
      refine t_0 vpa_52 rfl (ld_i l1) ?_
      refine t_3 vpa_53 rfl (ar := ([pvR 154, oI ((δ : Int))], [])) (pcal_w (as := [oI ((δ : Int))]) rfl rfl rfl leo_154) ⟨by omega, Nat.le_of_ble_eq_true rfl, Nat.le_of_ble_eq_true rfl, rfl⟩ ?_
      refine hFa _ (by omega) _ _ _ _ _ _ _ _ _ _ hS6 ⟨by omega, by omega, by omega, by omega⟩ _ (fun g8 f8 p8 k8 o8 v8 hS8 u8 t8 => ?_) (fun g8 p8 k8 o8 v8 hS8 Q8 t8 => ?_) _ rfl rfl
      · replace hS8 : lS K g0 g8 p8 f8 k8 c o8 v8 le st co en := hS8
        have m8 := lc_m hB hK hS8
        show t_X d 52 56 lv7 [] g8 P
        refine t_0 vpa_56 rfl (ld_a l0) ?_
        refine t_0 vpa_57 rfl (pq_ro leo_154 rfl (lc_c hB hK hS8)) ?_
        show t_X d 52 60 lv7 [pvR K] g8 P
        refine t_0 vpa_60 rfl (ld_i l3) ?_
        refine t_3 vpa_61 rfl (ar := ([pvR K, oI (k)], [])) (pcal_w (as := [oI (k)]) rfl rfl rfl (lk_e hK)) ⟨by omega, Nat.le_of_ble_eq_true rfl, Nat.le_of_ble_eq_true rfl, rfl⟩ ?_
        refine vla_run hK (by omega) hB hS8 ⟨by omega, by omega⟩ (fun t9 g9 hS9 => ?_) (fun t9 => ?_) rfl rfl
        · replace hS9 : lS K g0 g9 p8 f8 k8 c o8 (updI v8 k.toNat k8) le st co en := hS9
          show t_X d 52 64 lv7 [] g9 P
          refine t_2 vpa_64 rfl (w := (px_s1 lv7 2 (oI ((j : Int) + 1)), [])) (pq_inc l2 (by decide)) ?_
          replace l0 : px_lg (px_s1 lv7 2 (oI ((j : Int) + 1))) 0 = some (pvR 154) := s1_ne (by decide) (fun _ => rfl) l0
          replace l1 : px_lg (px_s1 lv7 2 (oI ((j : Int) + 1))) 1 = some (oI ((δ : Int))) := s1_ne (by decide) (fun _ => rfl) l1
          replace l3 : px_lg (px_s1 lv7 2 (oI ((j : Int) + 1))) 3 = some (oI (k)) := s1_ne (by decide) (fun _ => rfl) l3
          have l2 : px_lg (px_s1 lv7 2 (oI ((j : Int) + 1))) 2 = some (oI ((j : Int) + 1)) := s1_eq
          generalize px_s1 lv7 2 (oI ((j : Int) + 1)) = lv10 at l0 l1 l3 l2 ⊢
          show t_X d 52 67 lv10 [] g9 P
          refine t_1 vpa_67 rfl (pb_goto (pc := 67) (by decide)) ?_
          show t_X d 52 7 lv10 [] g9 P
          exact vpa_x hK hB hS9 (by omega) (by omega) (hF _ _ _ _ _ _ hS9 (by omega) (lx_A2 hLP (by omega) t8)) l0 l2
        · show t_X d 52 64 lv7 [] g8 P
          refine t_2 vpa_64 rfl (w := (px_s1 lv7 2 (oI ((j : Int) + 1)), [])) (pq_inc l2 (by decide)) ?_
          replace l0 : px_lg (px_s1 lv7 2 (oI ((j : Int) + 1))) 0 = some (pvR 154) := s1_ne (by decide) (fun _ => rfl) l0
          replace l1 : px_lg (px_s1 lv7 2 (oI ((j : Int) + 1))) 1 = some (oI ((δ : Int))) := s1_ne (by decide) (fun _ => rfl) l1
          replace l3 : px_lg (px_s1 lv7 2 (oI ((j : Int) + 1))) 3 = some (oI (k)) := s1_ne (by decide) (fun _ => rfl) l3
          have l2 : px_lg (px_s1 lv7 2 (oI ((j : Int) + 1))) 2 = some (oI ((j : Int) + 1)) := s1_eq
          generalize px_s1 lv7 2 (oI ((j : Int) + 1)) = lv11 at l0 l1 l3 l2 ⊢
          show t_X d 52 67 lv11 [] g8 P
          refine t_1 vpa_67 rfl (pb_goto (pc := 67) (by decide)) ?_
          show t_X d 52 7 lv11 [] g8 P
          exact vpa_x hK hB hS8 (by omega) (by omega) (hF _ _ _ _ _ _ hS8 (by omega) (lx_A2 hLP (by omega) t8)) l0 l2
      · replace hS8 : lS K g0 g8 p8 0 k8 c o8 v8 le st co en := hS8
        have R8 := Q8
        unfold lQ at R8
        show t_X d 52 56 lv7 [] g8 P
        refine t_0 vpa_56 rfl (ld_a l0) ?_
        refine t_0 vpa_57 rfl (pq_ro leo_154 rfl (lc_c hB hK hS8)) ?_
        show t_X d 52 60 lv7 [pvR K] g8 P
        refine t_0 vpa_60 rfl (ld_i l3) ?_
        refine t_3 vpa_61 rfl (ar := ([pvR K, oI (k)], [])) (pcal_w (as := [oI (k)]) rfl rfl rfl (lk_e hK)) ⟨by omega, Nat.le_of_ble_eq_true rfl, Nat.le_of_ble_eq_true rfl, rfl⟩ ?_
        refine vla_run hK (by omega) hB hS8 ⟨by omega, by omega⟩ (fun t12 g12 hS12 => ?_) (fun t12 => absurd (by omega) t12) rfl rfl
        replace hS12 : lS K g0 g12 p8 0 k8 c o8 (updI v8 k.toNat k8) le st co en := hS12
        show t_X d 52 64 lv7 [] g12 P
        refine t_2 vpa_64 rfl (w := (px_s1 lv7 2 (oI ((j : Int) + 1)), [])) (pq_inc l2 (by decide)) ?_
        replace l0 : px_lg (px_s1 lv7 2 (oI ((j : Int) + 1))) 0 = some (pvR 154) := s1_ne (by decide) (fun _ => rfl) l0
        replace l1 : px_lg (px_s1 lv7 2 (oI ((j : Int) + 1))) 1 = some (oI ((δ : Int))) := s1_ne (by decide) (fun _ => rfl) l1
        replace l3 : px_lg (px_s1 lv7 2 (oI ((j : Int) + 1))) 3 = some (oI (k)) := s1_ne (by decide) (fun _ => rfl) l3
        have l2 : px_lg (px_s1 lv7 2 (oI ((j : Int) + 1))) 2 = some (oI ((j : Int) + 1)) := s1_eq
        generalize px_s1 lv7 2 (oI ((j : Int) + 1)) = lv13 at l0 l1 l3 l2 ⊢
        show t_X d 52 67 lv13 [] g12 P
        refine t_1 vpa_67 rfl (pb_goto (pc := 67) (by decide)) ?_
        show t_X d 52 7 lv13 [] g12 P
        refine ih (j + 1) _ _ _ _ _ _ _ (by omega) (by omega) hS12 ⟨by omega, by omega, by omega, by omega⟩ (fun g9 f9 p9 k9 o9 v9 hS9 u9 t9 => ?_) (fun g9 p9 k9 o9 v9 hS9 Q9 t9 => ?_) l0 l1 (l2.trans (congrArg (fun x => some (oI x)) (by omega)))
        · exact hF _ _ _ _ _ _ hS9 u9 (lx_A3 hLP (by omega) t8 ⟨by omega, by omega, by omega, by omega⟩ (by omega) t9)
        · unfold lQl at Q9
          exact hO _ _ _ _ _ hS9 ⟨by omega, by omega, by omega, by omega, by omega, by omega, by omega⟩ (lx_A3 hLP (by omega) t8 ⟨by omega, by omega, by omega, by omega⟩ (by omega) t9)
theorem vPa {K : Nat} (hK : lK K) {g0 : pH} {B : tC} {n : Int} (hB : lB K g0 B n) {δ : Nat} (hδ : δ ≤ 6) (hFa : lSt K g0 B n 53 6 (34 + 3 * (6 - δ)) δ) : lSt K g0 B n 52 8 (35 + 3 * (6 - δ)) δ := by
  intro d hd g p k c o v le st co en hS hLP P hF hO lv l0 l1
  obtain ⟨hn, hp, hf, hk, hc, hH⟩ := lc_m hB hK hS
  have hP := hLP
  unfold lP at hP
  refine t_0 vpa_0 rfl (ld_a l0) ?_
  refine t_0 vpa_1 rfl (ld_i l1) ?_
  refine t_3 vpa_2 rfl (ar := ([pvR 154, oI ((δ : Int))], [])) (pcal_w (as := [oI ((δ : Int))]) rfl rfl rfl leo_154) ⟨by omega, Nat.le_of_ble_eq_true rfl, Nat.le_of_ble_eq_true rfl, rfl⟩ ?_
  refine hFa _ (by omega) _ _ _ _ _ _ _ _ _ _ hS ⟨by omega, by omega, by omega, by omega⟩ _ (fun g1 f1 p1 k1 o1 v1 hS1 u1 t1 => ?_) (fun g1 p1 k1 o1 v1 hS1 Q1 t1 => ?_) _ rfl rfl
  · replace hS1 : lS K g0 g1 p1 f1 k1 c o1 v1 le st co en := hS1
    have m1 := lc_m hB hK hS1
    show t_X d 52 5 lv [] g1 P
    refine t_0 vpa_5 rfl rfl ?_
    refine t_2 vpa_6 rfl (w := (px_s1 lv 2 (oI 0), [])) rfl ?_
    replace l0 : px_lg (px_s1 lv 2 (oI 0)) 0 = some (pvR 154) := s1_ne (by decide) (fun _ => rfl) l0
    replace l1 : px_lg (px_s1 lv 2 (oI 0)) 1 = some (oI ((δ : Int))) := s1_ne (by decide) (fun _ => rfl) l1
    have l2 : px_lg (px_s1 lv 2 (oI 0)) 2 = some (oI 0) := s1_eq
    generalize px_s1 lv 2 (oI 0) = lv2 at l0 l1 l2 ⊢
    show t_X d 52 7 lv2 [] g1 P
    exact vpa_x hK hB hS1 (by omega) (by omega) (hF _ _ _ _ _ _ hS1 (by omega) (lx_B1 hLP t1)) l0 l2
  · replace hS1 : lS K g0 g1 p1 0 k1 c o1 v1 le st co en := hS1
    have R1 := Q1
    unfold lQ at R1
    show t_X d 52 5 lv [] g1 P
    refine t_0 vpa_5 rfl rfl ?_
    refine t_2 vpa_6 rfl (w := (px_s1 lv 2 (oI 0), [])) rfl ?_
    replace l0 : px_lg (px_s1 lv 2 (oI 0)) 0 = some (pvR 154) := s1_ne (by decide) (fun _ => rfl) l0
    replace l1 : px_lg (px_s1 lv 2 (oI 0)) 1 = some (oI ((δ : Int))) := s1_ne (by decide) (fun _ => rfl) l1
    have l2 : px_lg (px_s1 lv 2 (oI 0)) 2 = some (oI 0) := s1_eq
    generalize px_s1 lv 2 (oI 0) = lv3 at l0 l1 l2 ⊢
    show t_X d 52 7 lv3 [] g1 P
    refine vpa_l hK hB hδ hFa hd 241 0 _ _ _ _ _ _ _ (by omega) (by omega) hS1 ⟨by omega, by omega, by omega, by omega⟩ (fun g9 f9 p9 k9 o9 v9 hS9 u9 t9 => ?_) (fun g9 p9 k9 o9 v9 hS9 Q9 t9 => ?_) l0 l1 l2
    · exact hF _ _ _ _ _ _ hS9 u9 (lx_B2 hLP t1 ⟨by omega, by omega, by omega, by omega⟩ t9)
    · unfold lQl at Q9
      exact hO _ _ _ _ _ hS9 ⟨by omega, by omega, by omega, by omega, by omega, by omega, by omega⟩ (lx_B2 hLP t1 ⟨by omega, by omega, by omega, by omega⟩ t9)
theorem vco_x {d : Nat} {K : Nat} (hK : lK K) {g0 g : pH} {B : tC} {n : Int} (hB : lB K g0 B n) {p f k c : Int} {o v le st co en : tC} (hS : lS K g0 g p f k c o v le st co en) (hf0 : f < 0) {j : Int} (hj : 0 ≤ j ∧ j ≤ 1000) {P : Option pv × pH → Prop} (hP : P (none, g)) {lv : List (Nat × pv)} (l0 : px_lg lv 0 = some (pvR 154)) (l2 : px_lg lv 2 = some (oI j)) : t_X d 49 7 lv [] g P := by
  obtain ⟨hn, hp, hf, hk, hc, hH⟩ := lc_m hB hK hS
  refine t_0 vco_7 rfl (ld_i l2) ?_
  refine t_0 vco_8 rfl (pq_s (by decide)) ?_
  refine tb_ge vco_11 (by decide) ⟨by omega, by omega⟩ ⟨by omega, by omega⟩ (fun c1 => ?_) (fun c1 => ?_)
  · show t_X d 49 70 lv [] g P
    refine t_5 vco_70 rfl rfl ?_
    exact hP
  · show t_X d 49 14 lv [] g P
    refine t_0 vco_14 rfl (ld_a l0) ?_
    refine t_0 vco_15 rfl (pq_cv leo_154 rfl (show cF g 154 3 = f from S_f hS 1 (Nat.le_of_ble_eq_true rfl))) ?_
    show t_X d 49 18 lv [oI (f)] g P
    refine tz_ne vco_18 (by decide) ⟨by omega, by omega⟩ (fun c2 => ?_) (fun c2 => absurd c2 (by omega))
    show t_X d 49 70 lv [] g P
    refine t_5 vco_70 rfl rfl ?_
    exact hP
set_option maxHeartbeats 4000000 in
theorem vco_l {K : Nat} (hK : lK K) {g0 : pH} {B : tC} {n : Int} (hB : lB K g0 B n) {δ : Nat} (hδ : δ ≤ 6) (hFa : lSt K g0 B n 52 8 (35 + 3 * (6 - δ)) δ) {d : Nat} (hd : 36 + 3 * (6 - δ) ≤ d) {c : Int} {le st co en : tC} : ∀ (y j : Nat) (g : pH) (lv : List (Nat × pv)) (p k : Int) (o v : tC) (P : Option pv × pH → Prop), n - p ≤ y → (j : Int) < p → lS K g0 g p 0 k c o v le st co en → lP n p k → (∀ (g1 : pH) (f p1 k1 : Int) (o1 v1 : tC), lS K g0 g1 p1 f k1 c o1 v1 le st co en → f < 0 → lI (tH B n) n 9 δ p k o v (.inl f) → P (none, g1)) → (∀ (g1 : pH) (p1 k1 : Int) (o1 v1 : tC), lS K g0 g1 p1 0 k1 c o1 v1 le st co en → lQl n p k p1 k1 → lI (tH B n) n 9 δ p k o v (.inr (p1, k1, o1, v1)) → P (none, g1)) → px_lg lv 0 = some (pvR 154) → px_lg lv 1 = some (oI (δ : Int)) → px_lg lv 2 = some (oI (j : Int)) → t_X d 49 7 lv [] g P := by
  intro y
  induction y with
  | zero =>
    intro j g lv p k o v P hy hj hS hLP hF hO l0 l1 l2
    obtain ⟨hn, hp, hf, hk, hc, hH⟩ := lc_m hB hK hS
    have hP := hLP
    unfold lP at hP
    refine t_0 vco_7 rfl (ld_i l2) ?_
    refine t_0 vco_8 rfl (pq_s (by decide)) ?_
    refine tb_ge vco_11 (by decide) ⟨by omega, by omega⟩ ⟨by omega, by omega⟩ (fun c1 => absurd c1 (by omega)) (fun c1 => ?_)
    show t_X d 49 14 lv [] g P
    refine t_0 vco_14 rfl (ld_a l0) ?_
    refine t_0 vco_15 rfl (pq_cv leo_154 rfl (show cF g 154 3 = 0 from S_f hS 1 (Nat.le_of_ble_eq_true rfl))) ?_
    show t_X d 49 18 lv [oI 0] g P
    refine tz_ne vco_18 (by decide) ⟨by omega, by omega⟩ (fun c2 => absurd c2 (by omega)) (fun c2 => ?_)
    show t_X d 49 21 lv [] g P
    refine t_0 vco_21 rfl (ld_a l0) ?_
    refine t_3 vco_22 rfl (ar := ([pvR 154], [])) (pcal_w (as := []) rfl rfl rfl leo_154) ⟨by omega, Nat.le_of_ble_eq_true rfl, Nat.le_of_ble_eq_true rfl, rfl⟩ ?_
    refine vsg_run hK hB hS ?_ rfl
    have b3 := hH p (by omega)
    have z3 := tH_n (B := B) (n := n) (p := p)
    show t_X d 49 25 lv [oI (tH B n p)] g P
    refine t_0 vco_25 rfl (pq_b (by decide)) ?_
    refine tb_ne vco_27 (by decide) ⟨by omega, by omega⟩ ⟨by omega, by omega⟩ (fun c4 => ?_) (fun c4 => ?_)
    · show t_X d 49 70 lv [] g P
      refine t_5 vco_70 rfl rfl ?_
      exact hO _ _ _ _ _ hS ⟨by omega, by omega, by omega, by omega, by omega, by omega, by omega⟩ (lx_O1 hLP (by omega))
    · show t_X d 49 30 lv [] g P
      refine t_0 vco_30 rfl (ld_a l0) ?_
      refine t_0 vco_31 rfl rfl ?_
      refine t_0 vco_32 rfl (pq_cv leo_154 rfl (show cF g 154 2 = p from S_f hS 0 (Nat.le_of_ble_eq_true rfl))) ?_
      show t_X d 49 35 lv [oI (p), pvR 154] g P
      refine t_0 vco_35 rfl rfl ?_
      refine t_0 vco_36 rfl pq_add ?_
      refine ts_f (n := 0) rfl rfl (lk_f0 hK) vco_37 rfl leo_154 hS (lk_w0 hK) lgy_154_2 (by decide) ⟨by omega, by omega⟩ (fun g5 hS5 => ?_)
      replace hS5 : lS K g0 g5 (p + 1) 0 k c o v le st co en := hS5
      show t_X d 49 40 lv [] g5 P
      refine t_0 vco_40 rfl (ld_a l0) ?_
      refine t_0 vco_41 rfl (pq_ro leo_154 rfl (lc_c hB hK hS5)) ?_
      show t_X d 49 44 lv [pvR K] g5 P
      refine t_0 vco_44 rfl (pq_b (by decide)) ?_
      refine t_0 vco_46 rfl rfl ?_
      refine t_3 vco_47 rfl (ar := ([pvR K, oI 12, oI 0], [])) (pcal_w (as := [oI 0, oI 12]) rfl rfl rfl (lk_e hK)) ⟨by omega, Nat.le_of_ble_eq_true rfl, Nat.le_of_ble_eq_true rfl, rfl⟩ ?_
      refine vem_run hK hB hS5 ⟨by omega, by omega⟩ ⟨by omega, by omega⟩ (fun _ g6 hS6 => ?_) (fun t6 => absurd t6 (by omega)) rfl rfl rfl
      replace hS6 : lS K g0 g6 (p + 1) 0 (k + 1) c (updI o k.toNat 12) (updI v k.toNat 0) le st co en := hS6
      show t_X d 49 50 lv [oI (k)] g6 P
      refine t_2 vco_50 rfl (w := (px_s1 lv 3 (oI (k)), [])) rfl ?_
      replace l0 : px_lg (px_s1 lv 3 (oI (k))) 0 = some (pvR 154) := s1_ne (by decide) (fun _ => rfl) l0
      replace l1 : px_lg (px_s1 lv 3 (oI (k))) 1 = some (oI ((δ : Int))) := s1_ne (by decide) (fun _ => rfl) l1
      replace l2 : px_lg (px_s1 lv 3 (oI (k))) 2 = some (oI ((j : Int))) := s1_ne (by decide) (fun _ => rfl) l2
      have l3 : px_lg (px_s1 lv 3 (oI (k))) 3 = some (oI (k)) := s1_eq
      generalize px_s1 lv 3 (oI (k)) = lv7 at l0 l1 l2 l3 ⊢
      show t_X d 49 51 lv7 [] g6 P
      refine t_0 vco_51 rfl (ld_a l0) ?_
      refine t_0 vco_52 rfl (ld_i l1) ?_
      refine t_3 vco_53 rfl (ar := ([pvR 154, oI ((δ : Int))], [])) (pcal_w (as := [oI ((δ : Int))]) rfl rfl rfl leo_154) ⟨by omega, Nat.le_of_ble_eq_true rfl, Nat.le_of_ble_eq_true rfl, rfl⟩ ?_
      refine hFa _ (by omega) _ _ _ _ _ _ _ _ _ _ hS6 ⟨by omega, by omega, by omega, by omega⟩ _ (fun g8 f8 p8 k8 o8 v8 hS8 u8 t8 => ?_) (fun g8 p8 k8 o8 v8 hS8 Q8 t8 => ?_) _ rfl rfl
      · replace hS8 : lS K g0 g8 p8 f8 k8 c o8 v8 le st co en := hS8
        have m8 := lc_m hB hK hS8
        show t_X d 49 56 lv7 [] g8 P
        refine t_0 vco_56 rfl (ld_a l0) ?_
        refine t_0 vco_57 rfl (pq_ro leo_154 rfl (lc_c hB hK hS8)) ?_
        show t_X d 49 60 lv7 [pvR K] g8 P
        refine t_0 vco_60 rfl (ld_i l3) ?_
        refine t_3 vco_61 rfl (ar := ([pvR K, oI (k)], [])) (pcal_w (as := [oI (k)]) rfl rfl rfl (lk_e hK)) ⟨by omega, Nat.le_of_ble_eq_true rfl, Nat.le_of_ble_eq_true rfl, rfl⟩ ?_
        refine vla_run hK (by omega) hB hS8 ⟨by omega, by omega⟩ (fun t9 g9 hS9 => ?_) (fun t9 => ?_) rfl rfl
        · replace hS9 : lS K g0 g9 p8 f8 k8 c o8 (updI v8 k.toNat k8) le st co en := hS9
          show t_X d 49 64 lv7 [] g9 P
          refine t_2 vco_64 rfl (w := (px_s1 lv7 2 (oI ((j : Int) + 1)), [])) (pq_inc l2 (by decide)) ?_
          replace l0 : px_lg (px_s1 lv7 2 (oI ((j : Int) + 1))) 0 = some (pvR 154) := s1_ne (by decide) (fun _ => rfl) l0
          replace l1 : px_lg (px_s1 lv7 2 (oI ((j : Int) + 1))) 1 = some (oI ((δ : Int))) := s1_ne (by decide) (fun _ => rfl) l1
          replace l3 : px_lg (px_s1 lv7 2 (oI ((j : Int) + 1))) 3 = some (oI (k)) := s1_ne (by decide) (fun _ => rfl) l3
          have l2 : px_lg (px_s1 lv7 2 (oI ((j : Int) + 1))) 2 = some (oI ((j : Int) + 1)) := s1_eq
          generalize px_s1 lv7 2 (oI ((j : Int) + 1)) = lv10 at l0 l1 l3 l2 ⊢
          show t_X d 49 67 lv10 [] g9 P
          refine t_1 vco_67 rfl (pb_goto (pc := 67) (by decide)) ?_
          show t_X d 49 7 lv10 [] g9 P
          exact vco_x hK hB hS9 (by omega) (by omega) (hF _ _ _ _ _ _ hS9 (by omega) (lx_O2 hLP (by omega) t8)) l0 l2
        · show t_X d 49 64 lv7 [] g8 P
          refine t_2 vco_64 rfl (w := (px_s1 lv7 2 (oI ((j : Int) + 1)), [])) (pq_inc l2 (by decide)) ?_
          replace l0 : px_lg (px_s1 lv7 2 (oI ((j : Int) + 1))) 0 = some (pvR 154) := s1_ne (by decide) (fun _ => rfl) l0
          replace l1 : px_lg (px_s1 lv7 2 (oI ((j : Int) + 1))) 1 = some (oI ((δ : Int))) := s1_ne (by decide) (fun _ => rfl) l1
          replace l3 : px_lg (px_s1 lv7 2 (oI ((j : Int) + 1))) 3 = some (oI (k)) := s1_ne (by decide) (fun _ => rfl) l3
          have l2 : px_lg (px_s1 lv7 2 (oI ((j : Int) + 1))) 2 = some (oI ((j : Int) + 1)) := s1_eq
          generalize px_s1 lv7 2 (oI ((j : Int) + 1)) = lv11 at l0 l1 l3 l2 ⊢
          show t_X d 49 67 lv11 [] g8 P
          refine t_1 vco_67 rfl (pb_goto (pc := 67) (by decide)) ?_
          show t_X d 49 7 lv11 [] g8 P
          exact vco_x hK hB hS8 (by omega) (by omega) (hF _ _ _ _ _ _ hS8 (by omega) (lx_O2 hLP (by omega) t8)) l0 l2
      · replace hS8 : lS K g0 g8 p8 0 k8 c o8 v8 le st co en := hS8
        have R8 := Q8
        unfold lQ at R8
        show t_X d 49 56 lv7 [] g8 P
        refine t_0 vco_56 rfl (ld_a l0) ?_
        refine t_0 vco_57 rfl (pq_ro leo_154 rfl (lc_c hB hK hS8)) ?_
        show t_X d 49 60 lv7 [pvR K] g8 P
        refine t_0 vco_60 rfl (ld_i l3) ?_
        refine t_3 vco_61 rfl (ar := ([pvR K, oI (k)], [])) (pcal_w (as := [oI (k)]) rfl rfl rfl (lk_e hK)) ⟨by omega, Nat.le_of_ble_eq_true rfl, Nat.le_of_ble_eq_true rfl, rfl⟩ ?_
        refine vla_run hK (by omega) hB hS8 ⟨by omega, by omega⟩ (fun t12 g12 hS12 => ?_) (fun t12 => absurd (by omega) t12) rfl rfl
        replace hS12 : lS K g0 g12 p8 0 k8 c o8 (updI v8 k.toNat k8) le st co en := hS12
        show t_X d 49 64 lv7 [] g12 P
        refine t_2 vco_64 rfl (w := (px_s1 lv7 2 (oI ((j : Int) + 1)), [])) (pq_inc l2 (by decide)) ?_
        replace l0 : px_lg (px_s1 lv7 2 (oI ((j : Int) + 1))) 0 = some (pvR 154) := s1_ne (by decide) (fun _ => rfl) l0
        replace l1 : px_lg (px_s1 lv7 2 (oI ((j : Int) + 1))) 1 = some (oI ((δ : Int))) := s1_ne (by decide) (fun _ => rfl) l1
        replace l3 : px_lg (px_s1 lv7 2 (oI ((j : Int) + 1))) 3 = some (oI (k)) := s1_ne (by decide) (fun _ => rfl) l3
        have l2 : px_lg (px_s1 lv7 2 (oI ((j : Int) + 1))) 2 = some (oI ((j : Int) + 1)) := s1_eq
        generalize px_s1 lv7 2 (oI ((j : Int) + 1)) = lv13 at l0 l1 l3 l2 ⊢
        show t_X d 49 67 lv13 [] g12 P
        refine t_1 vco_67 rfl (pb_goto (pc := 67) (by decide)) ?_
        show t_X d 49 7 lv13 [] g12 P
        exfalso
        omega
  | succ y ih =>
    intro j g lv p k o v P hy hj hS hLP hF hO l0 l1 l2
    obtain ⟨hn, hp, hf, hk, hc, hH⟩ := lc_m hB hK hS
    have hP := hLP
    unfold lP at hP
    refine t_0 vco_7 rfl (ld_i l2) ?_
    refine t_0 vco_8 rfl (pq_s (by decide)) ?_
    refine tb_ge vco_11 (by decide) ⟨by omega, by omega⟩ ⟨by omega, by omega⟩ (fun c1 => absurd c1 (by omega)) (fun c1 => ?_)
    show t_X d 49 14 lv [] g P
    refine t_0 vco_14 rfl (ld_a l0) ?_
    refine t_0 vco_15 rfl (pq_cv leo_154 rfl (show cF g 154 3 = 0 from S_f hS 1 (Nat.le_of_ble_eq_true rfl))) ?_
    show t_X d 49 18 lv [oI 0] g P
    refine tz_ne vco_18 (by decide) ⟨by omega, by omega⟩ (fun c2 => absurd c2 (by omega)) (fun c2 => ?_)
    show t_X d 49 21 lv [] g P
    refine t_0 vco_21 rfl (ld_a l0) ?_
    refine t_3 vco_22 rfl (ar := ([pvR 154], [])) (pcal_w (as := []) rfl rfl rfl leo_154) ⟨by omega, Nat.le_of_ble_eq_true rfl, Nat.le_of_ble_eq_true rfl, rfl⟩ ?_
    refine vsg_run hK hB hS ?_ rfl
    have b3 := hH p (by omega)
    have z3 := tH_n (B := B) (n := n) (p := p)
    show t_X d 49 25 lv [oI (tH B n p)] g P
    refine t_0 vco_25 rfl (pq_b (by decide)) ?_
    refine tb_ne vco_27 (by decide) ⟨by omega, by omega⟩ ⟨by omega, by omega⟩ (fun c4 => ?_) (fun c4 => ?_)
    · show t_X d 49 70 lv [] g P
      refine t_5 vco_70 rfl rfl ?_
      exact hO _ _ _ _ _ hS ⟨by omega, by omega, by omega, by omega, by omega, by omega, by omega⟩ (lx_O1 hLP (by omega))
    · show t_X d 49 30 lv [] g P
      refine t_0 vco_30 rfl (ld_a l0) ?_
      refine t_0 vco_31 rfl rfl ?_
      refine t_0 vco_32 rfl (pq_cv leo_154 rfl (show cF g 154 2 = p from S_f hS 0 (Nat.le_of_ble_eq_true rfl))) ?_
      show t_X d 49 35 lv [oI (p), pvR 154] g P
      refine t_0 vco_35 rfl rfl ?_
      refine t_0 vco_36 rfl pq_add ?_
      refine ts_f (n := 0) rfl rfl (lk_f0 hK) vco_37 rfl leo_154 hS (lk_w0 hK) lgy_154_2 (by decide) ⟨by omega, by omega⟩ (fun g5 hS5 => ?_)
      replace hS5 : lS K g0 g5 (p + 1) 0 k c o v le st co en := hS5
      show t_X d 49 40 lv [] g5 P
      refine t_0 vco_40 rfl (ld_a l0) ?_
      refine t_0 vco_41 rfl (pq_ro leo_154 rfl (lc_c hB hK hS5)) ?_
      show t_X d 49 44 lv [pvR K] g5 P
      refine t_0 vco_44 rfl (pq_b (by decide)) ?_
      refine t_0 vco_46 rfl rfl ?_
      refine t_3 vco_47 rfl (ar := ([pvR K, oI 12, oI 0], [])) (pcal_w (as := [oI 0, oI 12]) rfl rfl rfl (lk_e hK)) ⟨by omega, Nat.le_of_ble_eq_true rfl, Nat.le_of_ble_eq_true rfl, rfl⟩ ?_
      refine vem_run hK hB hS5 ⟨by omega, by omega⟩ ⟨by omega, by omega⟩ (fun _ g6 hS6 => ?_) (fun t6 => absurd t6 (by omega)) rfl rfl rfl
      replace hS6 : lS K g0 g6 (p + 1) 0 (k + 1) c (updI o k.toNat 12) (updI v k.toNat 0) le st co en := hS6
      show t_X d 49 50 lv [oI (k)] g6 P
      refine t_2 vco_50 rfl (w := (px_s1 lv 3 (oI (k)), [])) rfl ?_
      replace l0 : px_lg (px_s1 lv 3 (oI (k))) 0 = some (pvR 154) := s1_ne (by decide) (fun _ => rfl) l0
      replace l1 : px_lg (px_s1 lv 3 (oI (k))) 1 = some (oI ((δ : Int))) := s1_ne (by decide) (fun _ => rfl) l1
      replace l2 : px_lg (px_s1 lv 3 (oI (k))) 2 = some (oI ((j : Int))) := s1_ne (by decide) (fun _ => rfl) l2
      have l3 : px_lg (px_s1 lv 3 (oI (k))) 3 = some (oI (k)) := s1_eq
      generalize px_s1 lv 3 (oI (k)) = lv7 at l0 l1 l2 l3 ⊢
      show t_X d 49 51 lv7 [] g6 P
      refine t_0 vco_51 rfl (ld_a l0) ?_
      refine t_0 vco_52 rfl (ld_i l1) ?_
      refine t_3 vco_53 rfl (ar := ([pvR 154, oI ((δ : Int))], [])) (pcal_w (as := [oI ((δ : Int))]) rfl rfl rfl leo_154) ⟨by omega, Nat.le_of_ble_eq_true rfl, Nat.le_of_ble_eq_true rfl, rfl⟩ ?_
      refine hFa _ (by omega) _ _ _ _ _ _ _ _ _ _ hS6 ⟨by omega, by omega, by omega, by omega⟩ _ (fun g8 f8 p8 k8 o8 v8 hS8 u8 t8 => ?_) (fun g8 p8 k8 o8 v8 hS8 Q8 t8 => ?_) _ rfl rfl
      · replace hS8 : lS K g0 g8 p8 f8 k8 c o8 v8 le st co en := hS8
        have m8 := lc_m hB hK hS8
        show t_X d 49 56 lv7 [] g8 P
        refine t_0 vco_56 rfl (ld_a l0) ?_
        refine t_0 vco_57 rfl (pq_ro leo_154 rfl (lc_c hB hK hS8)) ?_
        show t_X d 49 60 lv7 [pvR K] g8 P
        refine t_0 vco_60 rfl (ld_i l3) ?_
        refine t_3 vco_61 rfl (ar := ([pvR K, oI (k)], [])) (pcal_w (as := [oI (k)]) rfl rfl rfl (lk_e hK)) ⟨by omega, Nat.le_of_ble_eq_true rfl, Nat.le_of_ble_eq_true rfl, rfl⟩ ?_
        refine vla_run hK (by omega) hB hS8 ⟨by omega, by omega⟩ (fun t9 g9 hS9 => ?_) (fun t9 => ?_) rfl rfl
        · replace hS9 : lS K g0 g9 p8 f8 k8 c o8 (updI v8 k.toNat k8) le st co en := hS9
          show t_X d 49 64 lv7 [] g9 P
          refine t_2 vco_64 rfl (w := (px_s1 lv7 2 (oI ((j : Int) + 1)), [])) (pq_inc l2 (by decide)) ?_
          replace l0 : px_lg (px_s1 lv7 2 (oI ((j : Int) + 1))) 0 = some (pvR 154) := s1_ne (by decide) (fun _ => rfl) l0
          replace l1 : px_lg (px_s1 lv7 2 (oI ((j : Int) + 1))) 1 = some (oI ((δ : Int))) := s1_ne (by decide) (fun _ => rfl) l1
          replace l3 : px_lg (px_s1 lv7 2 (oI ((j : Int) + 1))) 3 = some (oI (k)) := s1_ne (by decide) (fun _ => rfl) l3
          have l2 : px_lg (px_s1 lv7 2 (oI ((j : Int) + 1))) 2 = some (oI ((j : Int) + 1)) := s1_eq
          generalize px_s1 lv7 2 (oI ((j : Int) + 1)) = lv10 at l0 l1 l3 l2 ⊢
          show t_X d 49 67 lv10 [] g9 P
          refine t_1 vco_67 rfl (pb_goto (pc := 67) (by decide)) ?_
          show t_X d 49 7 lv10 [] g9 P
          exact vco_x hK hB hS9 (by omega) (by omega) (hF _ _ _ _ _ _ hS9 (by omega) (lx_O2 hLP (by omega) t8)) l0 l2
        · show t_X d 49 64 lv7 [] g8 P
          refine t_2 vco_64 rfl (w := (px_s1 lv7 2 (oI ((j : Int) + 1)), [])) (pq_inc l2 (by decide)) ?_
          replace l0 : px_lg (px_s1 lv7 2 (oI ((j : Int) + 1))) 0 = some (pvR 154) := s1_ne (by decide) (fun _ => rfl) l0
          replace l1 : px_lg (px_s1 lv7 2 (oI ((j : Int) + 1))) 1 = some (oI ((δ : Int))) := s1_ne (by decide) (fun _ => rfl) l1
          replace l3 : px_lg (px_s1 lv7 2 (oI ((j : Int) + 1))) 3 = some (oI (k)) := s1_ne (by decide) (fun _ => rfl) l3
          have l2 : px_lg (px_s1 lv7 2 (oI ((j : Int) + 1))) 2 = some (oI ((j : Int) + 1)) := s1_eq
          generalize px_s1 lv7 2 (oI ((j : Int) + 1)) = lv11 at l0 l1 l3 l2 ⊢
          show t_X d 49 67 lv11 [] g8 P
          refine t_1 vco_67 rfl (pb_goto (pc := 67) (by decide)) ?_
          show t_X d 49 7 lv11 [] g8 P
          exact vco_x hK hB hS8 (by omega) (by omega) (hF _ _ _ _ _ _ hS8 (by omega) (lx_O2 hLP (by omega) t8)) l0 l2
      · replace hS8 : lS K g0 g8 p8 0 k8 c o8 v8 le st co en := hS8
        have R8 := Q8
        unfold lQ at R8
        show t_X d 49 56 lv7 [] g8 P
        refine t_0 vco_56 rfl (ld_a l0) ?_
        refine t_0 vco_57 rfl (pq_ro leo_154 rfl (lc_c hB hK hS8)) ?_
        show t_X d 49 60 lv7 [pvR K] g8 P
        refine t_0 vco_60 rfl (ld_i l3) ?_
        refine t_3 vco_61 rfl (ar := ([pvR K, oI (k)], [])) (pcal_w (as := [oI (k)]) rfl rfl rfl (lk_e hK)) ⟨by omega, Nat.le_of_ble_eq_true rfl, Nat.le_of_ble_eq_true rfl, rfl⟩ ?_
        refine vla_run hK (by omega) hB hS8 ⟨by omega, by omega⟩ (fun t12 g12 hS12 => ?_) (fun t12 => absurd (by omega) t12) rfl rfl
        replace hS12 : lS K g0 g12 p8 0 k8 c o8 (updI v8 k.toNat k8) le st co en := hS12
        show t_X d 49 64 lv7 [] g12 P
        refine t_2 vco_64 rfl (w := (px_s1 lv7 2 (oI ((j : Int) + 1)), [])) (pq_inc l2 (by decide)) ?_
        replace l0 : px_lg (px_s1 lv7 2 (oI ((j : Int) + 1))) 0 = some (pvR 154) := s1_ne (by decide) (fun _ => rfl) l0
        replace l1 : px_lg (px_s1 lv7 2 (oI ((j : Int) + 1))) 1 = some (oI ((δ : Int))) := s1_ne (by decide) (fun _ => rfl) l1
        replace l3 : px_lg (px_s1 lv7 2 (oI ((j : Int) + 1))) 3 = some (oI (k)) := s1_ne (by decide) (fun _ => rfl) l3
        have l2 : px_lg (px_s1 lv7 2 (oI ((j : Int) + 1))) 2 = some (oI ((j : Int) + 1)) := s1_eq
        generalize px_s1 lv7 2 (oI ((j : Int) + 1)) = lv13 at l0 l1 l3 l2 ⊢
        show t_X d 49 67 lv13 [] g12 P
        refine t_1 vco_67 rfl (pb_goto (pc := 67) (by decide)) ?_
        show t_X d 49 7 lv13 [] g12 P
        refine ih (j + 1) _ _ _ _ _ _ _ (by omega) (by omega) hS12 ⟨by omega, by omega, by omega, by omega⟩ (fun g9 f9 p9 k9 o9 v9 hS9 u9 t9 => ?_) (fun g9 p9 k9 o9 v9 hS9 Q9 t9 => ?_) l0 l1 (l2.trans (congrArg (fun x => some (oI x)) (by omega)))
        · exact hF _ _ _ _ _ _ hS9 u9 (lx_O3 hLP (by omega) t8 ⟨by omega, by omega, by omega, by omega⟩ (by omega) t9)
        · unfold lQl at Q9
          exact hO _ _ _ _ _ hS9 ⟨by omega, by omega, by omega, by omega, by omega, by omega, by omega⟩ (lx_O3 hLP (by omega) t8 ⟨by omega, by omega, by omega, by omega⟩ (by omega) t9)
theorem vCo {K : Nat} (hK : lK K) {g0 : pH} {B : tC} {n : Int} (hB : lB K g0 B n) {δ : Nat} (hδ : δ ≤ 6) (hFa : lSt K g0 B n 52 8 (35 + 3 * (6 - δ)) δ) : lSt K g0 B n 49 10 (36 + 3 * (6 - δ)) δ := by
  intro d hd g p k c o v le st co en hS hLP P hF hO lv l0 l1
  obtain ⟨hn, hp, hf, hk, hc, hH⟩ := lc_m hB hK hS
  have hP := hLP
  unfold lP at hP
  refine t_0 vco_0 rfl (ld_a l0) ?_
  refine t_0 vco_1 rfl (ld_i l1) ?_
  refine t_3 vco_2 rfl (ar := ([pvR 154, oI ((δ : Int))], [])) (pcal_w (as := [oI ((δ : Int))]) rfl rfl rfl leo_154) ⟨by omega, Nat.le_of_ble_eq_true rfl, Nat.le_of_ble_eq_true rfl, rfl⟩ ?_
  refine hFa _ (by omega) _ _ _ _ _ _ _ _ _ _ hS ⟨by omega, by omega, by omega, by omega⟩ _ (fun g1 f1 p1 k1 o1 v1 hS1 u1 t1 => ?_) (fun g1 p1 k1 o1 v1 hS1 Q1 t1 => ?_) _ rfl rfl
  · replace hS1 : lS K g0 g1 p1 f1 k1 c o1 v1 le st co en := hS1
    have m1 := lc_m hB hK hS1
    show t_X d 49 5 lv [] g1 P
    refine t_0 vco_5 rfl rfl ?_
    refine t_2 vco_6 rfl (w := (px_s1 lv 2 (oI 0), [])) rfl ?_
    replace l0 : px_lg (px_s1 lv 2 (oI 0)) 0 = some (pvR 154) := s1_ne (by decide) (fun _ => rfl) l0
    replace l1 : px_lg (px_s1 lv 2 (oI 0)) 1 = some (oI ((δ : Int))) := s1_ne (by decide) (fun _ => rfl) l1
    have l2 : px_lg (px_s1 lv 2 (oI 0)) 2 = some (oI 0) := s1_eq
    generalize px_s1 lv 2 (oI 0) = lv2 at l0 l1 l2 ⊢
    show t_X d 49 7 lv2 [] g1 P
    exact vco_x hK hB hS1 (by omega) (by omega) (hF _ _ _ _ _ _ hS1 (by omega) (lx_D1 hLP t1)) l0 l2
  · replace hS1 : lS K g0 g1 p1 0 k1 c o1 v1 le st co en := hS1
    have R1 := Q1
    unfold lQ at R1
    show t_X d 49 5 lv [] g1 P
    refine t_0 vco_5 rfl rfl ?_
    refine t_2 vco_6 rfl (w := (px_s1 lv 2 (oI 0), [])) rfl ?_
    replace l0 : px_lg (px_s1 lv 2 (oI 0)) 0 = some (pvR 154) := s1_ne (by decide) (fun _ => rfl) l0
    replace l1 : px_lg (px_s1 lv 2 (oI 0)) 1 = some (oI ((δ : Int))) := s1_ne (by decide) (fun _ => rfl) l1
    have l2 : px_lg (px_s1 lv 2 (oI 0)) 2 = some (oI 0) := s1_eq
    generalize px_s1 lv 2 (oI 0) = lv3 at l0 l1 l2 ⊢
    show t_X d 49 7 lv3 [] g1 P
    refine vco_l hK hB hδ hFa hd 241 0 _ _ _ _ _ _ _ (by omega) (by omega) hS1 ⟨by omega, by omega, by omega, by omega⟩ (fun g9 f9 p9 k9 o9 v9 hS9 u9 t9 => ?_) (fun g9 p9 k9 o9 v9 hS9 Q9 t9 => ?_) l0 l1 l2
    · exact hF _ _ _ _ _ _ hS9 u9 (lx_D2 hLP t1 ⟨by omega, by omega, by omega, by omega⟩ t9)
    · unfold lQl at Q9
      exact hO _ _ _ _ _ hS9 ⟨by omega, by omega, by omega, by omega, by omega, by omega, by omega⟩ (lx_D2 hLP t1 ⟨by omega, by omega, by omega, by omega⟩ t9)
theorem vSu_at {K : Nat} (hK : lK K) {g0 : pH} {B : tC} {n : Int} (hB : lB K g0 B n) : ∀ (y δ : Nat), 6 - δ ≤ y → δ ≤ 6 → lSt K g0 B n 54 4 (12 + 3 * (6 - δ)) δ
  | 0, δ, h1, h2 => vSu hK hB h2 (vTe hK hB h2 (vFa hK hB h2 (fun h => absurd h (by omega))))
  | y + 1, δ, h1, h2 => vSu hK hB h2 (vTe hK hB h2 (vFa hK hB h2 (fun h => by
    have := vSu_at hK hB y (δ + 1) (by omega) (by omega)
    rw [show 6 - (δ + 1) = 5 - δ by omega] at this
    exact this)))
theorem vCo_at {K : Nat} (hK : lK K) {g0 : pH} {B : tC} {n : Int} (hB : lB K g0 B n) : ∀ (y δ : Nat), 6 - δ ≤ y → δ ≤ 6 → lSt K g0 B n 53 6 (34 + 3 * (6 - δ)) δ ∧ lSt K g0 B n 49 10 (36 + 3 * (6 - δ)) δ := fun y => by
  have fin : ∀ δ, δ ≤ 6 → lSt K g0 B n 53 6 (34 + 3 * (6 - δ)) δ → lSt K g0 B n 53 6 (34 + 3 * (6 - δ)) δ ∧ lSt K g0 B n 49 10 (36 + 3 * (6 - δ)) δ := fun δ h2 h => ⟨h, vCo hK hB h2 (vPa hK hB h2 h)⟩
  induction y with
  | zero => exact fun δ h1 h2 => fin δ h2 (vPi hK hB h2 (vCm hK hB h2 (vSu_at hK hB 6 δ (by omega) h2)) (fun h => absurd h (by omega)) (fun h => absurd h (by omega)))
  | succ y ih =>
    intro δ h1 h2
    refine fin δ h2 (vPi hK hB h2 (vCm hK hB h2 (vSu_at hK hB 6 δ (by omega) h2)) (fun h => ?_) (fun h => ?_))
    · have := (ih (δ + 1) (by omega) (by omega)).1
      rw [show 6 - (δ + 1) = 5 - δ by omega] at this
      exact this
    · have := (ih (δ + 1) (by omega) (by omega)).2
      rw [show 6 - (δ + 1) = 5 - δ by omega] at this
      exact this
