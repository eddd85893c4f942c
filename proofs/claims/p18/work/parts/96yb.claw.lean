/-! class: the law's text, exactly: signs, code, numbers (printed by wip/e2/v1.py) -/
theorem vem_0 : xe_look (xc 33) 0 = some (.aload_n 0, 1, 0, 0, 0) := by decide +kernel
theorem vem_1 : xe_look (xc 33) 1 = some (.getfield 37, 3, 3, 1, 836) := by decide +kernel
theorem vem_4 : xe_look (xc 33) 4 = some (.sipush 240, 3, 0, 0, 0) := by decide +kernel
theorem vem_7 : xe_look (xc 33) 7 = some (.if_icmp .lt 5, 3, 0, 0, 0) := by decide +kernel
theorem vem_10 : xe_look (xc 33) 10 = some (.iconst (-1), 1, 0, 0, 0) := by decide +kernel
theorem vem_11 : xe_look (xc 33) 11 = some (.ireturn, 1, 0, 0, 0) := by decide +kernel
theorem vem_12 : xe_look (xc 33) 12 = some (.aload_n 0, 1, 0, 0, 0) := by decide +kernel
theorem vem_13 : xe_look (xc 33) 13 = some (.getfield 9, 3, 3, 3, 838) := by decide +kernel
theorem vem_16 : xe_look (xc 33) 16 = some (.aload_n 0, 1, 0, 0, 0) := by decide +kernel
theorem vem_17 : xe_look (xc 33) 17 = some (.getfield 37, 3, 3, 1, 836) := by decide +kernel
theorem vem_20 : xe_look (xc 33) 20 = some (.iload_n 1, 1, 0, 0, 0) := by decide +kernel
theorem vem_21 : xe_look (xc 33) 21 = some (.iastore, 1, 0, 0, 0) := by decide +kernel
theorem vem_22 : xe_look (xc 33) 22 = some (.aload_n 0, 1, 0, 0, 0) := by decide +kernel
theorem vem_23 : xe_look (xc 33) 23 = some (.getfield 15, 3, 3, 4, 839) := by decide +kernel
theorem vem_26 : xe_look (xc 33) 26 = some (.aload_n 0, 1, 0, 0, 0) := by decide +kernel
theorem vem_27 : xe_look (xc 33) 27 = some (.getfield 37, 3, 3, 1, 836) := by decide +kernel
theorem vem_30 : xe_look (xc 33) 30 = some (.iload_n 2, 1, 0, 0, 0) := by decide +kernel
theorem vem_31 : xe_look (xc 33) 31 = some (.iastore, 1, 0, 0, 0) := by decide +kernel
theorem vem_32 : xe_look (xc 33) 32 = some (.aload_n 0, 1, 0, 0, 0) := by decide +kernel
theorem vem_33 : xe_look (xc 33) 33 = some (.dup, 1, 0, 0, 0) := by decide +kernel
theorem vem_34 : xe_look (xc 33) 34 = some (.getfield 37, 3, 3, 1, 836) := by decide +kernel
theorem vem_37 : xe_look (xc 33) 37 = some (.iconst 1, 1, 0, 0, 0) := by decide +kernel
theorem vem_38 : xe_look (xc 33) 38 = some (.iadd, 1, 0, 0, 0) := by decide +kernel
theorem vem_39 : xe_look (xc 33) 39 = some (.putfield 37, 3, 3, 1, 836) := by decide +kernel
theorem vem_42 : xe_look (xc 33) 42 = some (.aload_n 0, 1, 0, 0, 0) := by decide +kernel
theorem vem_43 : xe_look (xc 33) 43 = some (.getfield 37, 3, 3, 1, 836) := by decide +kernel
theorem vem_46 : xe_look (xc 33) 46 = some (.iconst 1, 1, 0, 0, 0) := by decide +kernel
theorem vem_47 : xe_look (xc 33) 47 = some (.isub, 1, 0, 0, 0) := by decide +kernel
theorem vem_48 : xe_look (xc 33) 48 = some (.ireturn, 1, 0, 0, 0) := by decide +kernel
theorem vex_0 : xe_look (xc 41) 0 = some (.aload_n 0, 1, 0, 0, 0) := by decide +kernel
theorem vex_1 : xe_look (xc 41) 1 = some (.getfield 32, 3, 4, 3, 850) := by decide +kernel
theorem vex_4 : xe_look (xc 41) 4 = some (.ifCond .ne 16, 3, 0, 0, 0) := by decide +kernel
theorem vex_7 : xe_look (xc 41) 7 = some (.aload_n 0, 1, 0, 0, 0) := by decide +kernel
theorem vex_8 : xe_look (xc 41) 8 = some (.invokevirtual 50, 3, 0, 56, 851) := by decide +kernel
theorem vex_11 : xe_look (xc 41) 11 = some (.iload_n 1, 1, 0, 0, 0) := by decide +kernel
theorem vex_12 : xe_look (xc 41) 12 = some (.if_icmp .eq 8, 3, 0, 0, 0) := by decide +kernel
theorem vex_15 : xe_look (xc 41) 15 = some (.aload_n 0, 1, 0, 0, 0) := by decide +kernel
theorem vex_16 : xe_look (xc 41) 16 = some (.iconst 1, 1, 0, 0, 0) := by decide +kernel
theorem vex_17 : xe_look (xc 41) 17 = some (.invokevirtual 64, 3, 0, 42, 852) := by decide +kernel
theorem vex_20 : xe_look (xc 41) 20 = some (.aload_n 0, 1, 0, 0, 0) := by decide +kernel
theorem vex_21 : xe_look (xc 41) 21 = some (.dup, 1, 0, 0, 0) := by decide +kernel
theorem vex_22 : xe_look (xc 41) 22 = some (.getfield 29, 3, 4, 2, 853) := by decide +kernel
theorem vex_25 : xe_look (xc 41) 25 = some (.aload_n 0, 1, 0, 0, 0) := by decide +kernel
theorem vex_26 : xe_look (xc 41) 26 = some (.getfield 32, 3, 4, 3, 850) := by decide +kernel
theorem vex_29 : xe_look (xc 41) 29 = some (.ifCond .ne 7, 3, 0, 0, 0) := by decide +kernel
theorem vex_32 : xe_look (xc 41) 32 = some (.iconst 1, 1, 0, 0, 0) := by decide +kernel
theorem vex_33 : xe_look (xc 41) 33 = some (.goto 4, 3, 0, 0, 0) := by decide +kernel
theorem vex_36 : xe_look (xc 41) 36 = some (.iconst 0, 1, 0, 0, 0) := by decide +kernel
theorem vex_37 : xe_look (xc 41) 37 = some (.iadd, 1, 0, 0, 0) := by decide +kernel
theorem vex_38 : xe_look (xc 41) 38 = some (.putfield 29, 3, 4, 2, 853) := by decide +kernel
theorem vex_41 : xe_look (xc 41) 41 = some (.return_, 1, 0, 0, 0) := by decide +kernel
theorem vfl_0 : xe_look (xc 42) 0 = some (.aload_n 0, 1, 0, 0, 0) := by decide +kernel
theorem vfl_1 : xe_look (xc 42) 1 = some (.getfield 32, 3, 4, 3, 850) := by decide +kernel
theorem vfl_4 : xe_look (xc 42) 4 = some (.ifCond .ne 17, 3, 0, 0, 0) := by decide +kernel
theorem vfl_7 : xe_look (xc 42) 7 = some (.aload_n 0, 1, 0, 0, 0) := by decide +kernel
theorem vfl_8 : xe_look (xc 42) 8 = some (.sipush (-1000), 3, 0, 0, 0) := by decide +kernel
theorem vfl_11 : xe_look (xc 42) 11 = some (.iload_n 1, 1, 0, 0, 0) := by decide +kernel
theorem vfl_12 : xe_look (xc 42) 12 = some (.imul, 1, 0, 0, 0) := by decide +kernel
theorem vfl_13 : xe_look (xc 42) 13 = some (.aload_n 0, 1, 0, 0, 0) := by decide +kernel
theorem vfl_14 : xe_look (xc 42) 14 = some (.getfield 29, 3, 4, 2, 853) := by decide +kernel
theorem vfl_17 : xe_look (xc 42) 17 = some (.isub, 1, 0, 0, 0) := by decide +kernel
theorem vfl_18 : xe_look (xc 42) 18 = some (.putfield 32, 3, 4, 3, 850) := by decide +kernel
theorem vfl_21 : xe_look (xc 42) 21 = some (.return_, 1, 0, 0, 0) := by decide +kernel
theorem vla_0 : xe_look (xc 36) 0 = some (.iload_n 1, 1, 0, 0, 0) := by decide +kernel
theorem vla_1 : xe_look (xc 36) 1 = some (.iconst 0, 1, 0, 0, 0) := by decide +kernel
theorem vla_2 : xe_look (xc 36) 2 = some (.sipush 239, 3, 0, 0, 0) := by decide +kernel
theorem vla_5 : xe_look (xc 36) 5 = some (.invokestatic 40, 3, 1, 124, 2) := by decide +kernel
theorem vla_8 : xe_look (xc 36) 8 = some (.ifCond .eq 13, 3, 0, 0, 0) := by decide +kernel
theorem vla_11 : xe_look (xc 36) 11 = some (.aload_n 0, 1, 0, 0, 0) := by decide +kernel
theorem vla_12 : xe_look (xc 36) 12 = some (.getfield 15, 3, 3, 4, 839) := by decide +kernel
theorem vla_15 : xe_look (xc 36) 15 = some (.iload_n 1, 1, 0, 0, 0) := by decide +kernel
theorem vla_16 : xe_look (xc 36) 16 = some (.aload_n 0, 1, 0, 0, 0) := by decide +kernel
theorem vla_17 : xe_look (xc 36) 17 = some (.getfield 37, 3, 3, 1, 836) := by decide +kernel
theorem vla_20 : xe_look (xc 36) 20 = some (.iastore, 1, 0, 0, 0) := by decide +kernel
theorem vla_21 : xe_look (xc 36) 21 = some (.return_, 1, 0, 0, 0) := by decide +kernel
theorem vnu_0 : xe_look (xc 51) 0 = some (.iconst 0, 1, 0, 0, 0) := by decide +kernel
theorem vnu_1 : xe_look (xc 51) 1 = some (.istore_n 1, 1, 0, 0, 0) := by decide +kernel
theorem vnu_2 : xe_look (xc 51) 2 = some (.iconst 0, 1, 0, 0, 0) := by decide +kernel
theorem vnu_3 : xe_look (xc 51) 3 = some (.istore_n 2, 1, 0, 0, 0) := by decide +kernel
theorem vnu_4 : xe_look (xc 51) 4 = some (.iload_n 2, 1, 0, 0, 0) := by decide +kernel
theorem vnu_5 : xe_look (xc 51) 5 = some (.iconst 5, 1, 0, 0, 0) := by decide +kernel
theorem vnu_6 : xe_look (xc 51) 6 = some (.if_icmp .ge 46, 3, 0, 0, 0) := by decide +kernel
theorem vnu_9 : xe_look (xc 51) 9 = some (.aload_n 0, 1, 0, 0, 0) := by decide +kernel
theorem vnu_10 : xe_look (xc 51) 10 = some (.invokevirtual 50, 3, 0, 56, 851) := by decide +kernel
theorem vnu_13 : xe_look (xc 51) 13 = some (.bipush 48, 2, 0, 0, 0) := by decide +kernel
theorem vnu_15 : xe_look (xc 51) 15 = some (.bipush 57, 2, 0, 0, 0) := by decide +kernel
theorem vnu_17 : xe_look (xc 51) 17 = some (.invokestatic 119, 3, 1, 124, 3) := by decide +kernel
theorem vnu_20 : xe_look (xc 51) 20 = some (.ifCond .eq 32, 3, 0, 0, 0) := by decide +kernel
theorem vnu_23 : xe_look (xc 51) 23 = some (.bipush 10, 2, 0, 0, 0) := by decide +kernel
theorem vnu_25 : xe_look (xc 51) 25 = some (.iload_n 1, 1, 0, 0, 0) := by decide +kernel
theorem vnu_26 : xe_look (xc 51) 26 = some (.imul, 1, 0, 0, 0) := by decide +kernel
theorem vnu_27 : xe_look (xc 51) 27 = some (.aload_n 0, 1, 0, 0, 0) := by decide +kernel
theorem vnu_28 : xe_look (xc 51) 28 = some (.invokevirtual 50, 3, 0, 56, 851) := by decide +kernel
theorem vnu_31 : xe_look (xc 51) 31 = some (.iadd, 1, 0, 0, 0) := by decide +kernel
theorem vnu_32 : xe_look (xc 51) 32 = some (.bipush 48, 2, 0, 0, 0) := by decide +kernel
theorem vnu_34 : xe_look (xc 51) 34 = some (.isub, 1, 0, 0, 0) := by decide +kernel
theorem vnu_35 : xe_look (xc 51) 35 = some (.istore_n 1, 1, 0, 0, 0) := by decide +kernel
theorem vnu_36 : xe_look (xc 51) 36 = some (.aload_n 0, 1, 0, 0, 0) := by decide +kernel
theorem vnu_37 : xe_look (xc 51) 37 = some (.dup, 1, 0, 0, 0) := by decide +kernel
theorem vnu_38 : xe_look (xc 51) 38 = some (.getfield 29, 3, 4, 2, 853) := by decide +kernel
theorem vnu_41 : xe_look (xc 51) 41 = some (.iconst 1, 1, 0, 0, 0) := by decide +kernel
theorem vnu_42 : xe_look (xc 51) 42 = some (.iadd, 1, 0, 0, 0) := by decide +kernel
theorem vnu_43 : xe_look (xc 51) 43 = some (.putfield 29, 3, 4, 2, 853) := by decide +kernel
theorem vnu_46 : xe_look (xc 51) 46 = some (.iinc 2 1, 3, 0, 0, 0) := by decide +kernel
theorem vnu_49 : xe_look (xc 51) 49 = some (.goto (-45), 3, 0, 0, 0) := by decide +kernel
theorem vnu_52 : xe_look (xc 51) 52 = some (.aload_n 0, 1, 0, 0, 0) := by decide +kernel
theorem vnu_53 : xe_look (xc 51) 53 = some (.invokevirtual 50, 3, 0, 56, 851) := by decide +kernel
theorem vnu_56 : xe_look (xc 51) 56 = some (.bipush 48, 2, 0, 0, 0) := by decide +kernel
theorem vnu_58 : xe_look (xc 51) 58 = some (.bipush 57, 2, 0, 0, 0) := by decide +kernel
theorem vnu_60 : xe_look (xc 51) 60 = some (.invokestatic 119, 3, 1, 124, 3) := by decide +kernel
theorem vnu_63 : xe_look (xc 51) 63 = some (.ifCond .eq 9, 3, 0, 0, 0) := by decide +kernel
theorem vnu_66 : xe_look (xc 51) 66 = some (.aload_n 0, 1, 0, 0, 0) := by decide +kernel
theorem vnu_67 : xe_look (xc 51) 67 = some (.iconst 2, 1, 0, 0, 0) := by decide +kernel
theorem vnu_68 : xe_look (xc 51) 68 = some (.invokevirtual 64, 3, 0, 42, 852) := by decide +kernel
theorem vnu_71 : xe_look (xc 51) 71 = some (.return_, 1, 0, 0, 0) := by decide +kernel
theorem vnu_72 : xe_look (xc 51) 72 = some (.aload_n 0, 1, 0, 0, 0) := by decide +kernel
theorem vnu_73 : xe_look (xc 51) 73 = some (.getfield 15, 3, 4, 4, 856) := by decide +kernel
theorem vnu_76 : xe_look (xc 51) 76 = some (.iconst 0, 1, 0, 0, 0) := by decide +kernel
theorem vnu_77 : xe_look (xc 51) 77 = some (.iload_n 1, 1, 0, 0, 0) := by decide +kernel
theorem vnu_78 : xe_look (xc 51) 78 = some (.invokevirtual 86, 3, 0, 33, 869) := by decide +kernel
theorem vnu_81 : xe_look (xc 51) 81 = some (.pop, 1, 0, 0, 0) := by decide +kernel
theorem vnu_82 : xe_look (xc 51) 82 = some (.return_, 1, 0, 0, 0) := by decide +kernel
theorem vof_0 : xe_look (xc 45) 0 = some (.aload_n 0, 1, 0, 0, 0) := by decide +kernel
theorem vof_1 : xe_look (xc 45) 1 = some (.invokevirtual 50, 3, 0, 56, 851) := by decide +kernel
theorem vof_4 : xe_look (xc 45) 4 = some (.istore_n 3, 1, 0, 0, 0) := by decide +kernel
theorem vof_5 : xe_look (xc 45) 5 = some (.iload_n 3, 1, 0, 0, 0) := by decide +kernel
theorem vof_6 : xe_look (xc 45) 6 = some (.iconst (-1), 1, 0, 0, 0) := by decide +kernel
theorem vof_7 : xe_look (xc 45) 7 = some (.if_icmp .eq 10, 3, 0, 0, 0) := by decide +kernel
theorem vof_10 : xe_look (xc 45) 10 = some (.aload_n 0, 1, 0, 0, 0) := by decide +kernel
theorem vof_11 : xe_look (xc 45) 11 = some (.getfield 32, 3, 4, 3, 850) := by decide +kernel
theorem vof_14 : xe_look (xc 45) 14 = some (.ifCond .eq 7, 3, 0, 0, 0) := by decide +kernel
theorem vof_17 : xe_look (xc 45) 17 = some (.iconst (-1), 1, 0, 0, 0) := by decide +kernel
theorem vof_18 : xe_look (xc 45) 18 = some (.goto 9, 3, 0, 0, 0) := by decide +kernel
theorem vof_21 : xe_look (xc 45) 21 = some (.aload_n 1, 1, 0, 0, 0) := by decide +kernel
theorem vof_22 : xe_look (xc 45) 22 = some (.iload_n 3, 1, 0, 0, 0) := by decide +kernel
theorem vof_23 : xe_look (xc 45) 23 = some (.i2c, 1, 0, 0, 0) := by decide +kernel
theorem vof_24 : xe_look (xc 45) 24 = some (.invokevirtual 58, 3, 6, 0, 224) := by decide +kernel
theorem vof_27 : xe_look (xc 45) 27 = some (.istore 4, 2, 0, 0, 0) := by decide +kernel
theorem vof_29 : xe_look (xc 45) 29 = some (.iload 4, 2, 0, 0, 0) := by decide +kernel
theorem vof_31 : xe_look (xc 45) 31 = some (.ifCond .ge 7, 3, 0, 0, 0) := by decide +kernel
theorem vof_34 : xe_look (xc 45) 34 = some (.iconst (-1), 1, 0, 0, 0) := by decide +kernel
theorem vof_35 : xe_look (xc 45) 35 = some (.goto 7, 3, 0, 0, 0) := by decide +kernel
theorem vof_38 : xe_look (xc 45) 38 = some (.iload_n 2, 1, 0, 0, 0) := by decide +kernel
theorem vof_39 : xe_look (xc 45) 39 = some (.iload 4, 2, 0, 0, 0) := by decide +kernel
theorem vof_41 : xe_look (xc 45) 41 = some (.iadd, 1, 0, 0, 0) := by decide +kernel
theorem vof_42 : xe_look (xc 45) 42 = some (.ireturn, 1, 0, 0, 0) := by decide +kernel
theorem vop_0 : xe_look (xc 44) 0 = some (.iload_n 1, 1, 0, 0, 0) := by decide +kernel
theorem vop_1 : xe_look (xc 44) 1 = some (.bipush 6, 2, 0, 0, 0) := by decide +kernel
theorem vop_3 : xe_look (xc 44) 3 = some (.if_icmp .lt 10, 3, 0, 0, 0) := by decide +kernel
theorem vop_6 : xe_look (xc 44) 6 = some (.aload_n 0, 1, 0, 0, 0) := by decide +kernel
theorem vop_7 : xe_look (xc 44) 7 = some (.iconst 5, 1, 0, 0, 0) := by decide +kernel
theorem vop_8 : xe_look (xc 44) 8 = some (.invokevirtual 64, 3, 0, 42, 852) := by decide +kernel
theorem vop_11 : xe_look (xc 44) 11 = some (.iconst 0, 1, 0, 0, 0) := by decide +kernel
theorem vop_12 : xe_look (xc 44) 12 = some (.ireturn, 1, 0, 0, 0) := by decide +kernel
theorem vop_13 : xe_look (xc 44) 13 = some (.aload_n 0, 1, 0, 0, 0) := by decide +kernel
theorem vop_14 : xe_look (xc 44) 14 = some (.dup, 1, 0, 0, 0) := by decide +kernel
theorem vop_15 : xe_look (xc 44) 15 = some (.getfield 29, 3, 4, 2, 853) := by decide +kernel
theorem vop_18 : xe_look (xc 44) 18 = some (.iconst 1, 1, 0, 0, 0) := by decide +kernel
theorem vop_19 : xe_look (xc 44) 19 = some (.iadd, 1, 0, 0, 0) := by decide +kernel
theorem vop_20 : xe_look (xc 44) 20 = some (.putfield 29, 3, 4, 2, 853) := by decide +kernel
theorem vop_23 : xe_look (xc 44) 23 = some (.iconst 1, 1, 0, 0, 0) := by decide +kernel
theorem vop_24 : xe_look (xc 44) 24 = some (.ireturn, 1, 0, 0, 0) := by decide +kernel
theorem vsg_0 : xe_look (xc 56) 0 = some (.aload_n 0, 1, 0, 0, 0) := by decide +kernel
theorem vsg_1 : xe_look (xc 56) 1 = some (.getfield 29, 3, 4, 2, 853) := by decide +kernel
theorem vsg_4 : xe_look (xc 56) 4 = some (.aload_n 0, 1, 0, 0, 0) := by decide +kernel
theorem vsg_5 : xe_look (xc 56) 5 = some (.getfield 25, 3, 4, 1, 858) := by decide +kernel
theorem vsg_8 : xe_look (xc 56) 8 = some (.if_icmp .ge 15, 3, 0, 0, 0) := by decide +kernel
theorem vsg_11 : xe_look (xc 56) 11 = some (.aload_n 0, 1, 0, 0, 0) := by decide +kernel
theorem vsg_12 : xe_look (xc 56) 12 = some (.getfield 9, 3, 4, 0, 855) := by decide +kernel
theorem vsg_15 : xe_look (xc 56) 15 = some (.aload_n 0, 1, 0, 0, 0) := by decide +kernel
theorem vsg_16 : xe_look (xc 56) 16 = some (.getfield 29, 3, 4, 2, 853) := by decide +kernel
theorem vsg_19 : xe_look (xc 56) 19 = some (.iaload, 1, 0, 0, 0) := by decide +kernel
theorem vsg_20 : xe_look (xc 56) 20 = some (.goto 4, 3, 0, 0, 0) := by decide +kernel
theorem vsg_23 : xe_look (xc 56) 23 = some (.iconst (-1), 1, 0, 0, 0) := by decide +kernel
theorem vsg_24 : xe_look (xc 56) 24 = some (.ireturn, 1, 0, 0, 0) := by decide +kernel
def lK (K : Nat) : Prop := K = 156 ∨ K = 165
def lk (K : Nat) : List (Nat × Nat) := [(154, 2), (154, 3), (K, 1), (K, 0)]
def la (K : Nat) : List Nat := [K + 1, K + 2, K + 3, K + 4, K + 5, K + 6]
def lW (K : Nat) : Nat := 2 ^ (cn 154 + 2) + 2 ^ (cn 154 + 3) + 2 ^ (cn K + 1) + 2 ^ (cn K + 0) + 2 ^ cn (K + 1) + 2 ^ cn (K + 2) + 2 ^ cn (K + 3) + 2 ^ cn (K + 4) + 2 ^ cn (K + 5) + 2 ^ cn (K + 6)
/-- place, fault, size, clauses; operations, operands, letters, where clauses begin, their conditions, ends -/
abbrev lS (K : Nat) (g0 g : pH) (p f k c : Int) (o v le st co en : tC) : Prop := sE (lk K) (la K) (lW K) g0 g [p, f, k, c] [o, v, le, st, co, en]
def lB (K : Nat) (g0 : pH) (B : tC) (n : Int) : Prop := cF g0 154 1 = n ∧ g0.2.2.1 154 0 = some 1 ∧ g0.2.2.1 154 4 = some K ∧ fA g0 1 = B ∧ 0 ≤ n ∧ n ≤ 240 ∧ ∀ j, j < 260 → 0 ≤ B j ∧ B j ≤ 255

theorem lk_e {K : Nat} (hK : lK K) : eL[K]? = some (0, 3) := by rcases hK with rfl | rfl <;> decide +kernel
theorem lk_t1 {K : Nat} (hK : lK K) : eL[K + 1]? = some (1, 240) := by rcases hK with rfl | rfl <;> decide +kernel
theorem lk_G1 {K : Nat} (hK : lK K) : eG (cn (K + 1)) = (0, 17, []) := by rcases hK with rfl | rfl <;> decide +kernel
theorem lk_u1 {K : Nat} (hK : lK K) : (lW K).testBit (cn (K + 1)) = true := by rcases hK with rfl | rfl <;> decide +kernel
theorem lk_a1 {K : Nat} (hK : lK K) : sEa (la K) (K + 1) 0 = true := by rcases hK with rfl | rfl <;> decide +kernel
theorem lk_t2 {K : Nat} (hK : lK K) : eL[K + 2]? = some (1, 240) := by rcases hK with rfl | rfl <;> decide +kernel
theorem lk_G2 {K : Nat} (hK : lK K) : eG (cn (K + 2)) = (0, 100000, []) := by rcases hK with rfl | rfl <;> decide +kernel
theorem lk_u2 {K : Nat} (hK : lK K) : (lW K).testBit (cn (K + 2)) = true := by rcases hK with rfl | rfl <;> decide +kernel
theorem lk_a2 {K : Nat} (hK : lK K) : sEa (la K) (K + 2) 1 = true := by rcases hK with rfl | rfl <;> decide +kernel
theorem lk_t3 {K : Nat} (hK : lK K) : eL[K + 3]? = some (1, 16) := by rcases hK with rfl | rfl <;> decide +kernel
theorem lk_G3 {K : Nat} (hK : lK K) : eG (cn (K + 3)) = (0, 255, []) := by rcases hK with rfl | rfl <;> decide +kernel
theorem lk_u3 {K : Nat} (hK : lK K) : (lW K).testBit (cn (K + 3)) = true := by rcases hK with rfl | rfl <;> decide +kernel
theorem lk_a3 {K : Nat} (hK : lK K) : sEa (la K) (K + 3) 2 = true := by rcases hK with rfl | rfl <;> decide +kernel
theorem lk_t4 {K : Nat} (hK : lK K) : eL[K + 4]? = some (1, 16) := by rcases hK with rfl | rfl <;> decide +kernel
theorem lk_G4 {K : Nat} (hK : lK K) : eG (cn (K + 4)) = (0, 240, []) := by rcases hK with rfl | rfl <;> decide +kernel
theorem lk_u4 {K : Nat} (hK : lK K) : (lW K).testBit (cn (K + 4)) = true := by rcases hK with rfl | rfl <;> decide +kernel
theorem lk_a4 {K : Nat} (hK : lK K) : sEa (la K) (K + 4) 3 = true := by rcases hK with rfl | rfl <;> decide +kernel
theorem lk_t5 {K : Nat} (hK : lK K) : eL[K + 5]? = some (1, 16) := by rcases hK with rfl | rfl <;> decide +kernel
theorem lk_G5 {K : Nat} (hK : lK K) : eG (cn (K + 5)) = (0, 240, []) := by rcases hK with rfl | rfl <;> decide +kernel
theorem lk_u5 {K : Nat} (hK : lK K) : (lW K).testBit (cn (K + 5)) = true := by rcases hK with rfl | rfl <;> decide +kernel
theorem lk_a5 {K : Nat} (hK : lK K) : sEa (la K) (K + 5) 4 = true := by rcases hK with rfl | rfl <;> decide +kernel
theorem lk_t6 {K : Nat} (hK : lK K) : eL[K + 6]? = some (1, 16) := by rcases hK with rfl | rfl <;> decide +kernel
theorem lk_G6 {K : Nat} (hK : lK K) : eG (cn (K + 6)) = (0, 240, []) := by rcases hK with rfl | rfl <;> decide +kernel
theorem lk_u6 {K : Nat} (hK : lK K) : (lW K).testBit (cn (K + 6)) = true := by rcases hK with rfl | rfl <;> decide +kernel
theorem lk_a6 {K : Nat} (hK : lK K) : sEa (la K) (K + 6) 5 = true := by rcases hK with rfl | rfl <;> decide +kernel
theorem lk_g0 {K : Nat} (hK : lK K) : eG (cn K + 0) = (0, 16, []) := by rcases hK with rfl | rfl <;> decide +kernel
theorem lk_g1 {K : Nat} (hK : lK K) : eG (cn K + 1) = (0, 240, []) := by rcases hK with rfl | rfl <;> decide +kernel
theorem lk_f0 {K : Nat} (hK : lK K) : sEf (lk K) 154 2 0 = true := by rcases hK with rfl | rfl <;> decide +kernel
theorem lk_w0 {K : Nat} (hK : lK K) : (lW K).testBit (cn 154 + 2) = true := by rcases hK with rfl | rfl <;> decide +kernel
theorem lk_f1 {K : Nat} (hK : lK K) : sEf (lk K) 154 3 1 = true := by rcases hK with rfl | rfl <;> decide +kernel
theorem lk_w1 {K : Nat} (hK : lK K) : (lW K).testBit (cn 154 + 3) = true := by rcases hK with rfl | rfl <;> decide +kernel
theorem lk_f2 {K : Nat} (hK : lK K) : sEf (lk K) K 1 2 = true := by rcases hK with rfl | rfl <;> decide +kernel
theorem lk_w2 {K : Nat} (hK : lK K) : (lW K).testBit (cn K + 1) = true := by rcases hK with rfl | rfl <;> decide +kernel
theorem lk_f3 {K : Nat} (hK : lK K) : sEf (lk K) K 0 3 = true := by rcases hK with rfl | rfl <;> decide +kernel
theorem lk_w3 {K : Nat} (hK : lK K) : (lW K).testBit (cn K + 0) = true := by rcases hK with rfl | rfl <;> decide +kernel
theorem lk_h3 {K : Nat} (hK : lK K) : (eG (cn K + 3)).2.2 = [K + 1 + 1] := by rcases hK with rfl | rfl <;> decide +kernel
theorem lk_r3 {K : Nat} (hK : lK K) {d i : Nat} {lv : List (Nat × pv)} {r : List pv} {g : pH} (hG : g_I eG g) : px_push eL d none (.getfield i) 3 3 lv (pvR K :: r) g = some (pvR (K + 1) :: r) := pget (lk_e hK) (gI_r (r := K + 1) hG (lk_e hK) (Nat.le_of_ble_eq_true rfl) (y := 3) rfl (lk_h3 hK))
theorem lk_h4 {K : Nat} (hK : lK K) : (eG (cn K + 4)).2.2 = [K + 2 + 1] := by rcases hK with rfl | rfl <;> decide +kernel
theorem lk_r4 {K : Nat} (hK : lK K) {d i : Nat} {lv : List (Nat × pv)} {r : List pv} {g : pH} (hG : g_I eG g) : px_push eL d none (.getfield i) 3 4 lv (pvR K :: r) g = some (pvR (K + 2) :: r) := pget (lk_e hK) (gI_r (r := K + 2) hG (lk_e hK) (Nat.le_of_ble_eq_true rfl) (y := 4) rfl (lk_h4 hK))
theorem lk_h5 {K : Nat} (hK : lK K) : (eG (cn K + 5)).2.2 = [K + 3 + 1] := by rcases hK with rfl | rfl <;> decide +kernel
theorem lk_r5 {K : Nat} (hK : lK K) {d i : Nat} {lv : List (Nat × pv)} {r : List pv} {g : pH} (hG : g_I eG g) : px_push eL d none (.getfield i) 3 5 lv (pvR K :: r) g = some (pvR (K + 3) :: r) := pget (lk_e hK) (gI_r (r := K + 3) hG (lk_e hK) (Nat.le_of_ble_eq_true rfl) (y := 5) rfl (lk_h5 hK))
theorem lk_h6 {K : Nat} (hK : lK K) : (eG (cn K + 6)).2.2 = [K + 4 + 1] := by rcases hK with rfl | rfl <;> decide +kernel
theorem lk_r6 {K : Nat} (hK : lK K) {d i : Nat} {lv : List (Nat × pv)} {r : List pv} {g : pH} (hG : g_I eG g) : px_push eL d none (.getfield i) 3 6 lv (pvR K :: r) g = some (pvR (K + 4) :: r) := pget (lk_e hK) (gI_r (r := K + 4) hG (lk_e hK) (Nat.le_of_ble_eq_true rfl) (y := 6) rfl (lk_h6 hK))
theorem lk_h7 {K : Nat} (hK : lK K) : (eG (cn K + 7)).2.2 = [K + 5 + 1] := by rcases hK with rfl | rfl <;> decide +kernel
theorem lk_r7 {K : Nat} (hK : lK K) {d i : Nat} {lv : List (Nat × pv)} {r : List pv} {g : pH} (hG : g_I eG g) : px_push eL d none (.getfield i) 3 7 lv (pvR K :: r) g = some (pvR (K + 5) :: r) := pget (lk_e hK) (gI_r (r := K + 5) hG (lk_e hK) (Nat.le_of_ble_eq_true rfl) (y := 7) rfl (lk_h7 hK))
theorem lk_h8 {K : Nat} (hK : lK K) : (eG (cn K + 8)).2.2 = [K + 6 + 1] := by rcases hK with rfl | rfl <;> decide +kernel
theorem lk_r8 {K : Nat} (hK : lK K) {d i : Nat} {lv : List (Nat × pv)} {r : List pv} {g : pH} (hG : g_I eG g) : px_push eL d none (.getfield i) 3 8 lv (pvR K :: r) g = some (pvR (K + 6) :: r) := pget (lk_e hK) (gI_r (r := K + 6) hG (lk_e hK) (Nat.le_of_ble_eq_true rfl) (y := 8) rfl (lk_h8 hK))
theorem lk_n {K : Nat} (hK : lK K) : (lW K).testBit (cn 154 + 1) = false ∧ (lW K).testBit (cn 154 + 0) = false ∧ (lW K).testBit (cn 154 + 4) = false ∧ (lW K).testBit (cn 1) = false := by rcases hK with rfl | rfl <;> decide +kernel
theorem i2_oI {h : Int} (hh : 0 ≤ h ∧ h ≤ 255) : ((Int32.ofInt h).toUInt32 % 65536).toInt32 = Int32.ofInt h := by
  have : ∀ m : Nat, m < 256 → ((Int32.ofInt (m : Int)).toUInt32 % 65536).toInt32 = Int32.ofInt (m : Int) := by decide +kernel
  have h1 := this h.toNat (by omega)
  rw [show ((h.toNat : Nat) : Int) = h by omega] at h1
  exact h1
def lIx (i : Nat) (h : Int) : Int := if i = 0 then (if h = 119 then 0 else if h = 110 then 1 else if h = 115 then 2 else if h = 116 then 3 else if h = 106 then 4 else if h = 120 then 5 else if h = 112 then 6 else if h = 98 then 7 else -1) else if i = 1 then (if lC3 h = -1 then -1 else lC3 h - 7) else if i = 2 then lFa h else if i = 3 then (if lS2 h = -1 then -1 else lS2 h - 2) else (if lT3 h = -1 then -1 else lT3 h - 4)
theorem ix_oI {i : Nat} (hi : i < 5) {h : Int} (hh : 0 ≤ h ∧ h ≤ 255) : xs_ix i (Int32.ofInt h) = Int32.ofInt (lIx i h) := by
  have : ∀ i, i < 5 → ∀ m : Nat, m < 256 → xs_ix i (Int32.ofInt (m : Int)) = Int32.ofInt (lIx i (m : Int)) := by decide +kernel
  have h1 := this i hi h.toNat (by omega)
  rw [show ((h.toNat : Nat) : Int) = h by omega] at h1
  exact h1
theorem pq_i2c {d x y : Nat} {lv : List (Nat × pv)} {r : List pv} {g : pH} {h : Int} (hh : 0 ≤ h ∧ h ≤ 255) : px_push eL d none .i2c x y lv (oI h :: r) g = some (oI h :: r) := by
  show some ((.inl ((Int32.ofInt h).toUInt32 % 65536).toInt32 : pv) :: r) = _
  rw [i2_oI hh]
theorem tx_ix {d μ pc : Nat} {lv : List (Nat × pv)} {r : List pv} {g : pH} {P : Option pv × pH → Prop} {q : xe_I} {h : Int} (i : Nat) (hi : i < 5) (hq : xe_look (xc μ) pc = some q) (hk : px_kd q.1 q.2.2.1 = 7) (hx : q.2.2.1 = 6) (hd : 8 ≤ d) (hs : px_sum r ≤ 8) (hh : 0 ≤ h ∧ h ≤ 255) (ht : t_X d μ (pc + 3) lv (oI (lIx i h) :: r) g P) : t_X d μ pc lv (oI h :: pvR (1001 + i) :: r) g P := by
  refine t_6 hq hk (st2 := oI (lIx i h) :: r) ?_ ht
  rw [hx]
  show (if 8 ≤ d ∧ px_sum r ≤ 8 ∧ 1001 ≤ 1001 + i ∧ 1001 + i < 1006 then some (.inl (xs_ix (1001 + i - 1001) (Int32.ofInt h)) :: r) else none) = _
  rw [if_pos ⟨hd, hs, by omega, by omega⟩, Nat.add_sub_cancel_left, ix_oI hi hh]
theorem leo_154 : eL[154]? = some (0, 4) := by decide +kernel
theorem lgy_154_2 : eG (cn 154 + 2) = (0, 240, []) := by decide +kernel
theorem lgy_154_3 : eG (cn 154 + 3) = ((-9999), 0, []) := by decide +kernel
theorem lez_1 : eL[1]? = some (1, 260) := by decide +kernel
theorem lc_e {K : Nat} {g0 g : pH} {B : tC} {n : Int} (hB : lB K g0 B n) (hK : lK K) {p f k c : Int} {o v le st co en : tC} (h : lS K g0 g p f k c o v le st co en) : cF g 154 1 = n := (cF_M (S_J h).2 (lk_n hK).1).trans hB.1
theorem lc_t {K : Nat} {g0 g : pH} {B : tC} {n : Int} (hB : lB K g0 B n) (hK : lK K) {p f k c : Int} {o v le st co en : tC} (h : lS K g0 g p f k c o v le st co en) : g.2.2.1 154 0 = some 1 := ((S_J h).2.1 154 0 (lk_n hK).2.1).2.2.trans hB.2.1
theorem lc_c {K : Nat} {g0 g : pH} {B : tC} {n : Int} (hB : lB K g0 B n) (hK : lK K) {p f k c : Int} {o v le st co en : tC} (h : lS K g0 g p f k c o v le st co en) : g.2.2.1 154 4 = some K := ((S_J h).2.1 154 4 (lk_n hK).2.2.1).2.2.trans hB.2.2.1
theorem lc_b {K : Nat} {g0 g : pH} {B : tC} {n : Int} (hB : lB K g0 B n) (hK : lK K) {p f k c : Int} {o v le st co en : tC} (h : lS K g0 g p f k c o v le st co en) : fA g 1 = B := (fA_M (S_J h).2 (lk_n hK).2.2.2).trans hB.2.2.2.1
theorem lc_m {K : Nat} {g0 g : pH} {B : tC} {n : Int} (hB : lB K g0 B n) (hK : lK K) {p f k c : Int} {o v le st co en : tC} (h : lS K g0 g p f k c o v le st co en) : (0 ≤ n ∧ n ≤ 240) ∧ (0 ≤ p ∧ p ≤ 240) ∧ (-9999 ≤ f ∧ f ≤ 0) ∧ (0 ≤ k ∧ k ≤ 240) ∧ (0 ≤ c ∧ c ≤ 16) ∧ (∀ q, 0 ≤ q → -1 ≤ tH B n q ∧ tH B n q ≤ 255) := by
  have x0 := cb_i (S_J h).1 leo_154 (Nat.le_of_ble_eq_true rfl) rfl lgy_154_2
  have x1 := cb_i (S_J h).1 leo_154 (Nat.le_of_ble_eq_true rfl) rfl lgy_154_3
  have x2 := cb_i (S_J h).1 (lk_e hK) (Nat.le_of_ble_eq_true rfl) rfl (lk_g1 hK)
  have x3 := cb_i (S_J h).1 (lk_e hK) (Nat.le_of_ble_eq_true rfl) rfl (lk_g0 hK)
  rw [(show cF g 154 2 = p from S_f h 0 (Nat.le_of_ble_eq_true rfl))] at x0
  rw [(show cF g 154 3 = f from S_f h 1 (Nat.le_of_ble_eq_true rfl))] at x1
  rw [(show cF g K 1 = k from S_f h 2 (Nat.le_of_ble_eq_true rfl))] at x2
  rw [(show cF g K 0 = c from S_f h 3 (Nat.le_of_ble_eq_true rfl))] at x3
  exact ⟨⟨hB.2.2.2.2.1, hB.2.2.2.2.2.1⟩, x0, x1, x2, x3, fun q hq => tH_b hB.2.2.2.2.2.2 (by have := hB.2.2.2.2.2.1; omega) hq⟩
theorem vsg_run {d : Nat} {K : Nat} (hK : lK K) {g0 g : pH} {B : tC} {n : Int} (hB : lB K g0 B n) {p f k c : Int} {o v le st co en : tC} (hS : lS K g0 g p f k c o v le st co en) {P : Option pv × pH → Prop} (hP : P (some (oI (tH B n p)), g)) {lv : List (Nat × pv)} (l0 : px_lg lv 0 = some (pvR 154)) : t_X d 56 0 lv [] g P := by
  obtain ⟨hn, hp, hf, hk, hc, hH⟩ := lc_m hB hK hS
  refine t_0 vsg_0 rfl (ld_a l0) ?_
  refine t_0 vsg_1 rfl (pq_cv leo_154 rfl (show cF g 154 2 = p from S_f hS 0 (Nat.le_of_ble_eq_true rfl))) ?_
  show t_X d 56 4 lv [oI (p)] g P
  refine t_0 vsg_4 rfl (ld_a l0) ?_
  refine t_0 vsg_5 rfl (pq_cv leo_154 rfl (lc_e hB hK hS : cF g 154 1 = n)) ?_
  show t_X d 56 8 lv [oI (n), oI (p)] g P
  refine tb_ge vsg_8 (by decide) ⟨by omega, by omega⟩ ⟨by omega, by omega⟩ (fun c1 => ?_) (fun c1 => ?_)
  · show t_X d 56 23 lv [] g P
    refine t_0 vsg_23 rfl rfl ?_
    refine t_5 vsg_24 rfl rfl ?_
    rw [tH_e (by omega)] at hP
    exact hP
  · show t_X d 56 11 lv [] g P
    refine t_0 vsg_11 rfl (ld_a l0) ?_
    refine t_0 vsg_12 rfl (pq_rv leo_154 rfl (lc_t hB hK hS)) ?_
    show t_X d 56 15 lv [pvR 1] g P
    refine t_0 vsg_15 rfl (ld_a l0) ?_
    refine t_0 vsg_16 rfl (pq_cv leo_154 rfl (show cF g 154 2 = p from S_f hS 0 (Nat.le_of_ble_eq_true rfl))) ?_
    show t_X d 56 19 lv [oI (p), pvR 1] g P
    have r2 := hB.2.2.2.2.2.2 p.toNat (by omega)
    refine t_0 vsg_19 rfl (pq_iv lez_1 rfl ⟨by omega, by omega⟩ (lc_b hB hK hS : fA g 1 = B)) ?_
    show t_X d 56 20 lv [oI (B p.toNat)] g P
    refine t_1 vsg_20 rfl (pb_goto (pc := 20) (by decide)) ?_
    show t_X d 56 24 lv [oI (B p.toNat)] g P
    refine t_5 vsg_24 rfl rfl ?_
    rw [tH_i (by omega)] at hP
    exact hP
theorem vfl_run {d : Nat} {K : Nat} (hK : lK K) {g0 g : pH} {B : tC} {n : Int} (hB : lB K g0 B n) {p k c : Int} {o v le st co en : tC} (hS : lS K g0 g p 0 k c o v le st co en) {a : Int} (ha : 1 ≤ a ∧ a ≤ 6) {P : Option pv × pH → Prop} (hP : ∀ g1 : pH, lS K g0 g1 p (-1000 * a - p) k c o v le st co en → P (none, g1)) {lv : List (Nat × pv)} (l0 : px_lg lv 0 = some (pvR 154)) (l1 : px_lg lv 1 = some (oI a)) : t_X d 42 0 lv [] g P := by
  obtain ⟨hn, hp, hf, hk, hc, hH⟩ := lc_m hB hK hS
  refine t_0 vfl_0 rfl (ld_a l0) ?_
  refine t_0 vfl_1 rfl (pq_cv leo_154 rfl (show cF g 154 3 = 0 from S_f hS 1 (Nat.le_of_ble_eq_true rfl))) ?_
  show t_X d 42 4 lv [oI 0] g P
  refine tz_ne vfl_4 (by decide) ⟨by omega, by omega⟩ (fun c1 => absurd c1 (by omega)) (fun c1 => ?_)
  show t_X d 42 7 lv [] g P
  refine t_0 vfl_7 rfl (ld_a l0) ?_
  refine t_0 vfl_8 rfl (pq_s (by decide)) ?_
  refine t_0 vfl_11 rfl (ld_i l1) ?_
  refine t_0 vfl_12 rfl pq_mul ?_
  refine t_0 vfl_13 rfl (ld_a l0) ?_
  refine t_0 vfl_14 rfl (pq_cv leo_154 rfl (show cF g 154 2 = p from S_f hS 0 (Nat.le_of_ble_eq_true rfl))) ?_
  show t_X d 42 17 lv [oI (p), oI (-1000 * a), pvR 154] g P
  refine t_0 vfl_17 rfl pq_sub ?_
  refine ts_f (n := 1) rfl rfl (lk_f1 hK) vfl_18 rfl leo_154 hS (lk_w1 hK) lgy_154_3 (by decide) ⟨by omega, by omega⟩ (fun g2 hS2 => ?_)
  replace hS2 : lS K g0 g2 p ((-1000 * a) - p) k c o v le st co en := hS2
  show t_X d 42 21 lv [] g2 P
  refine t_5 vfl_21 rfl rfl ?_
  exact hP _ hS2
theorem vfn_run {d : Nat} {K : Nat} (hK : lK K) {g0 g : pH} {B : tC} {n : Int} (hB : lB K g0 B n) {p f k c : Int} {o v le st co en : tC} (hS : lS K g0 g p f k c o v le st co en) (hf0 : f < 0) {P : Option pv × pH → Prop} (hP : P (none, g)) {lv : List (Nat × pv)} (l0 : px_lg lv 0 = some (pvR 154)) : t_X d 42 0 lv [] g P := by
  obtain ⟨hn, hp, hf, hk, hc, hH⟩ := lc_m hB hK hS
  refine t_0 vfl_0 rfl (ld_a l0) ?_
  refine t_0 vfl_1 rfl (pq_cv leo_154 rfl (show cF g 154 3 = f from S_f hS 1 (Nat.le_of_ble_eq_true rfl))) ?_
  show t_X d 42 4 lv [oI (f)] g P
  refine tz_ne vfl_4 (by decide) ⟨by omega, by omega⟩ (fun c1 => ?_) (fun c1 => absurd c1 (by omega))
  show t_X d 42 21 lv [] g P
  refine t_5 vfl_21 rfl rfl ?_
  exact hP
theorem vem_run {d : Nat} {K : Nat} (hK : lK K) {g0 g : pH} {B : tC} {n : Int} (hB : lB K g0 B n) {p f k c : Int} {o v le st co en : tC} (hS : lS K g0 g p f k c o v le st co en) {a b : Int} (ha : 0 ≤ a ∧ a ≤ 12) (hb : 0 ≤ b ∧ b ≤ 100000) {P : Option pv × pH → Prop} (h1 : k < 240 → ∀ g1 : pH, lS K g0 g1 p f (k + 1) c (updI o k.toNat a) (updI v k.toNat b) le st co en → P (some (oI k), g1)) (h0 : 240 ≤ k → P (some (oI (-1)), g)) {lv : List (Nat × pv)} (l0 : px_lg lv 0 = some (pvR K)) (l1 : px_lg lv 1 = some (oI a)) (l2 : px_lg lv 2 = some (oI b)) : t_X d 33 0 lv [] g P := by
  obtain ⟨hn, hp, hf, hk, hc, hH⟩ := lc_m hB hK hS
  refine t_0 vem_0 rfl (ld_a l0) ?_
  refine t_0 vem_1 rfl (pq_cv (lk_e hK) rfl (show cF g K 1 = k from S_f hS 2 (Nat.le_of_ble_eq_true rfl))) ?_
  show t_X d 33 4 lv [oI (k)] g P
  refine t_0 vem_4 rfl (pq_s (by decide)) ?_
  refine tb_lt vem_7 (by decide) ⟨by omega, by omega⟩ ⟨by omega, by omega⟩ (fun c1 => ?_) (fun c1 => ?_)
  · show t_X d 33 12 lv [] g P
    refine t_0 vem_12 rfl (ld_a l0) ?_
    refine t_0 vem_13 rfl (lk_r3 hK (S_J hS).1) ?_
    show t_X d 33 16 lv [pvR (K + 1)] g P
    refine t_0 vem_16 rfl (ld_a l0) ?_
    refine t_0 vem_17 rfl (pq_cv (lk_e hK) rfl (show cF g K 1 = k from S_f hS 2 (Nat.le_of_ble_eq_true rfl))) ?_
    show t_X d 33 20 lv [oI (k), pvR (K + 1)] g P
    refine t_0 vem_20 rfl (ld_i l1) ?_
    refine ts_a (n := 0) rfl rfl (lk_a1 hK) vem_21 hS (lk_t1 hK) rfl (lk_u1 hK) (lk_G1 hK) (by decide) ⟨by omega, by omega⟩ ⟨by omega, by omega⟩ (fun g2 hS2 => ?_)
    replace hS2 : lS K g0 g2 p f k c (updI o k.toNat a) v le st co en := hS2
    show t_X d 33 22 lv [] g2 P
    refine t_0 vem_22 rfl (ld_a l0) ?_
    refine t_0 vem_23 rfl (lk_r4 hK (S_J hS2).1) ?_
    show t_X d 33 26 lv [pvR (K + 2)] g2 P
    refine t_0 vem_26 rfl (ld_a l0) ?_
    refine t_0 vem_27 rfl (pq_cv (lk_e hK) rfl (show cF g2 K 1 = k from S_f hS2 2 (Nat.le_of_ble_eq_true rfl))) ?_
    show t_X d 33 30 lv [oI (k), pvR (K + 2)] g2 P
    refine t_0 vem_30 rfl (ld_i l2) ?_
    refine ts_a (n := 1) rfl rfl (lk_a2 hK) vem_31 hS2 (lk_t2 hK) rfl (lk_u2 hK) (lk_G2 hK) (by decide) ⟨by omega, by omega⟩ ⟨by omega, by omega⟩ (fun g3 hS3 => ?_)
    replace hS3 : lS K g0 g3 p f k c (updI o k.toNat a) (updI v k.toNat b) le st co en := hS3
    show t_X d 33 32 lv [] g3 P
    refine t_0 vem_32 rfl (ld_a l0) ?_
    refine t_0 vem_33 rfl rfl ?_
    refine t_0 vem_34 rfl (pq_cv (lk_e hK) rfl (show cF g3 K 1 = k from S_f hS3 2 (Nat.le_of_ble_eq_true rfl))) ?_
    show t_X d 33 37 lv [oI (k), pvR K] g3 P
    refine t_0 vem_37 rfl rfl ?_
    refine t_0 vem_38 rfl pq_add ?_
    refine ts_f (n := 2) rfl rfl (lk_f2 hK) vem_39 rfl (lk_e hK) hS3 (lk_w2 hK) (lk_g1 hK) (by decide) ⟨by omega, by omega⟩ (fun g4 hS4 => ?_)
    replace hS4 : lS K g0 g4 p f (k + 1) c (updI o k.toNat a) (updI v k.toNat b) le st co en := hS4
    show t_X d 33 42 lv [] g4 P
    refine t_0 vem_42 rfl (ld_a l0) ?_
    refine t_0 vem_43 rfl (pq_cv (lk_e hK) rfl (show cF g4 K 1 = k + 1 from S_f hS4 2 (Nat.le_of_ble_eq_true rfl))) ?_
    show t_X d 33 46 lv [oI (k + 1)] g4 P
    refine t_0 vem_46 rfl rfl ?_
    refine t_0 vem_47 rfl pq_sub ?_
    refine t_5 vem_48 rfl rfl ?_
    rw [show k + 1 - 1 = k by omega]
    exact h1 (by omega) _ hS4
  · show t_X d 33 10 lv [] g P
    refine t_0 vem_10 rfl rfl ?_
    refine t_5 vem_11 rfl rfl ?_
    exact h0 (by omega)
theorem vla_run {d : Nat} {K : Nat} (hK : lK K) (hd : 1 ≤ d) {g0 g : pH} {B : tC} {n : Int} (hB : lB K g0 B n) {p f k c : Int} {o v le st co en : tC} (hS : lS K g0 g p f k c o v le st co en) {a : Int} (ha : -1 ≤ a ∧ a ≤ 1000) {P : Option pv × pH → Prop} (h1 : 0 ≤ a ∧ a ≤ 239 → ∀ g1 : pH, lS K g0 g1 p f k c o (updI v a.toNat k) le st co en → P (none, g1)) (h0 : ¬ (0 ≤ a ∧ a ≤ 239) → P (none, g)) {lv : List (Nat × pv)} (l0 : px_lg lv 0 = some (pvR K)) (l1 : px_lg lv 1 = some (oI a)) : t_X d 36 0 lv [] g P := by
  obtain ⟨hn, hp, hf, hk, hc, hH⟩ := lc_m hB hK hS
  refine t_0 vla_0 rfl (ld_i l1) ?_
  refine t_0 vla_1 rfl rfl ?_
  refine t_0 vla_2 rfl (pq_s (by decide)) ?_
  refine t_3 vla_5 rfl (ar := ([oI (a), oI 0, oI 239], [])) (pcal_s ⟨Or.inr rfl, rfl, Nat.le_of_ble_eq_true rfl⟩) ⟨by omega, Nat.le_of_ble_eq_true rfl, Nat.le_of_ble_eq_true rfl, rfl⟩ ?_
  refine ii_run ⟨by omega, by omega⟩ ⟨by omega, by omega⟩ ⟨by omega, by omega⟩ rfl rfl rfl (fun t1 => ?_) (fun t1 => ?_)
  · show t_X d 36 8 lv [oI 1] g P
    refine tz_eq vla_8 (by decide) ⟨by omega, by omega⟩ (fun c2 => absurd c2 (by omega)) (fun c2 => ?_)
    show t_X d 36 11 lv [] g P
    refine t_0 vla_11 rfl (ld_a l0) ?_
    refine t_0 vla_12 rfl (lk_r4 hK (S_J hS).1) ?_
    show t_X d 36 15 lv [pvR (K + 2)] g P
    refine t_0 vla_15 rfl (ld_i l1) ?_
    refine t_0 vla_16 rfl (ld_a l0) ?_
    refine t_0 vla_17 rfl (pq_cv (lk_e hK) rfl (show cF g K 1 = k from S_f hS 2 (Nat.le_of_ble_eq_true rfl))) ?_
    show t_X d 36 20 lv [oI (k), oI (a), pvR (K + 2)] g P
    refine ts_a (n := 1) rfl rfl (lk_a2 hK) vla_20 hS (lk_t2 hK) rfl (lk_u2 hK) (lk_G2 hK) (by decide) ⟨by omega, by omega⟩ ⟨by omega, by omega⟩ (fun g3 hS3 => ?_)
    replace hS3 : lS K g0 g3 p f k c o (updI v a.toNat k) le st co en := hS3
    show t_X d 36 21 lv [] g3 P
    refine t_5 vla_21 rfl rfl ?_
    exact h1 (by omega) _ hS3
  · show t_X d 36 8 lv [oI 0] g P
    refine tz_eq vla_8 (by decide) ⟨by omega, by omega⟩ (fun c4 => ?_) (fun c4 => absurd c4 (by omega))
    show t_X d 36 21 lv [] g P
    refine t_5 vla_21 rfl rfl ?_
    exact h0 (by omega)
theorem vop_run {d : Nat} {K : Nat} (hK : lK K) (hd : 1 ≤ d) {g0 g : pH} {B : tC} {n : Int} (hB : lB K g0 B n) {p k c : Int} {o v le st co en : tC} (hS : lS K g0 g p 0 k c o v le st co en) {δ : Nat} (hδ : δ ≤ 7) (hp9 : p < n) {P : Option pv × pH → Prop} (h1 : δ < 6 → ∀ g1 : pH, lS K g0 g1 (p + 1) 0 k c o v le st co en → P (some (oI 1), g1)) (h0 : 6 ≤ δ → ∀ g1 : pH, lS K g0 g1 p (-5000 - p) k c o v le st co en → P (some (oI 0), g1)) {lv : List (Nat × pv)} (l0 : px_lg lv 0 = some (pvR 154)) (l1 : px_lg lv 1 = some (oI (δ : Int))) : t_X d 44 0 lv [] g P := by
  obtain ⟨hn, hp, hf, hk, hc, hH⟩ := lc_m hB hK hS
  refine t_0 vop_0 rfl (ld_i l1) ?_
  refine t_0 vop_1 rfl (pq_b (by decide)) ?_
  refine tb_lt vop_3 (by decide) ⟨by omega, by omega⟩ ⟨by omega, by omega⟩ (fun c1 => ?_) (fun c1 => ?_)
  · show t_X d 44 13 lv [] g P
    refine t_0 vop_13 rfl (ld_a l0) ?_
    refine t_0 vop_14 rfl rfl ?_
    refine t_0 vop_15 rfl (pq_cv leo_154 rfl (show cF g 154 2 = p from S_f hS 0 (Nat.le_of_ble_eq_true rfl))) ?_
    show t_X d 44 18 lv [oI (p), pvR 154] g P
    refine t_0 vop_18 rfl rfl ?_
    refine t_0 vop_19 rfl pq_add ?_
    refine ts_f (n := 0) rfl rfl (lk_f0 hK) vop_20 rfl leo_154 hS (lk_w0 hK) lgy_154_2 (by decide) ⟨by omega, by omega⟩ (fun g2 hS2 => ?_)
    replace hS2 : lS K g0 g2 (p + 1) 0 k c o v le st co en := hS2
    show t_X d 44 23 lv [] g2 P
    refine t_0 vop_23 rfl rfl ?_
    refine t_5 vop_24 rfl rfl ?_
    exact h1 (by omega) _ hS2
  · show t_X d 44 6 lv [] g P
    refine t_0 vop_6 rfl (ld_a l0) ?_
    refine t_0 vop_7 rfl rfl ?_
    refine t_3 vop_8 rfl (ar := ([pvR 154, oI 5], [])) (pcal_w (as := [oI 5]) rfl rfl rfl leo_154) ⟨by omega, Nat.le_of_ble_eq_true rfl, Nat.le_of_ble_eq_true rfl, rfl⟩ ?_
    refine vfl_run hK hB hS ⟨by omega, by omega⟩ (fun g3 hS3 => ?_) rfl rfl
    replace hS3 : lS K g0 g3 p (-1000 * 5 - p) k c o v le st co en := hS3
    show t_X d 44 11 lv [] g3 P
    refine t_0 vop_11 rfl rfl ?_
    refine t_5 vop_12 rfl rfl ?_
    exact h0 (by omega) _ (by rw [show -5000 - p = -1000 * 5 - p by omega]; exact hS3)
theorem vex_run {d : Nat} {K : Nat} (hK : lK K) (hd : 1 ≤ d) {g0 g : pH} {B : tC} {n : Int} (hB : lB K g0 B n) {p k c : Int} {o v le st co en : tC} (hS : lS K g0 g p 0 k c o v le st co en) {a : Int} (ha : 0 ≤ a ∧ a ≤ 255) {P : Option pv × pH → Prop} (h1 : tH B n p = a → ∀ g1 : pH, lS K g0 g1 (p + 1) 0 k c o v le st co en → P (none, g1)) (h0 : tH B n p ≠ a → ∀ g1 : pH, lS K g0 g1 p (-1000 - p) k c o v le st co en → P (none, g1)) {lv : List (Nat × pv)} (l0 : px_lg lv 0 = some (pvR 154)) (l1 : px_lg lv 1 = some (oI a)) : t_X d 41 0 lv [] g P := by
  obtain ⟨hn, hp, hf, hk, hc, hH⟩ := lc_m hB hK hS
  refine t_0 vex_0 rfl (ld_a l0) ?_
  refine t_0 vex_1 rfl (pq_cv leo_154 rfl (show cF g 154 3 = 0 from S_f hS 1 (Nat.le_of_ble_eq_true rfl))) ?_
  show t_X d 41 4 lv [oI 0] g P
  refine tz_ne vex_4 (by decide) ⟨by omega, by omega⟩ (fun c1 => absurd c1 (by omega)) (fun c1 => ?_)
  show t_X d 41 7 lv [] g P
  refine t_0 vex_7 rfl (ld_a l0) ?_
  refine t_3 vex_8 rfl (ar := ([pvR 154], [])) (pcal_w (as := []) rfl rfl rfl leo_154) ⟨by omega, Nat.le_of_ble_eq_true rfl, Nat.le_of_ble_eq_true rfl, rfl⟩ ?_
  refine vsg_run hK hB hS ?_ rfl
  have b2 := hH p (by omega)
  have z2 := tH_n (B := B) (n := n) (p := p)
  show t_X d 41 11 lv [oI (tH B n p)] g P
  refine t_0 vex_11 rfl (ld_i l1) ?_
  refine tb_eq vex_12 (by decide) ⟨by omega, by omega⟩ ⟨by omega, by omega⟩ (fun c3 => ?_) (fun c3 => ?_)
  · show t_X d 41 20 lv [] g P
    refine t_0 vex_20 rfl (ld_a l0) ?_
    refine t_0 vex_21 rfl rfl ?_
    refine t_0 vex_22 rfl (pq_cv leo_154 rfl (show cF g 154 2 = p from S_f hS 0 (Nat.le_of_ble_eq_true rfl))) ?_
    show t_X d 41 25 lv [oI (p), pvR 154] g P
    refine t_0 vex_25 rfl (ld_a l0) ?_
    refine t_0 vex_26 rfl (pq_cv leo_154 rfl (show cF g 154 3 = 0 from S_f hS 1 (Nat.le_of_ble_eq_true rfl))) ?_
    show t_X d 41 29 lv [oI 0, oI (p), pvR 154] g P
    refine tz_ne vex_29 (by decide) ⟨by omega, by omega⟩ (fun c4 => absurd c4 (by omega)) (fun c4 => ?_)
    show t_X d 41 32 lv [oI (p), pvR 154] g P
    refine t_0 vex_32 rfl rfl ?_
    refine t_1 vex_33 rfl (pb_goto (pc := 33) (by decide)) ?_
    show t_X d 41 37 lv [oI 1, oI (p), pvR 154] g P
    refine t_0 vex_37 rfl pq_add ?_
    refine ts_f (n := 0) rfl rfl (lk_f0 hK) vex_38 rfl leo_154 hS (lk_w0 hK) lgy_154_2 (by decide) ⟨by omega, by omega⟩ (fun g5 hS5 => ?_)
    replace hS5 : lS K g0 g5 (p + 1) 0 k c o v le st co en := hS5
    show t_X d 41 41 lv [] g5 P
    refine t_5 vex_41 rfl rfl ?_
    exact h1 (by omega) _ hS5
  · show t_X d 41 15 lv [] g P
    refine t_0 vex_15 rfl (ld_a l0) ?_
    refine t_0 vex_16 rfl rfl ?_
    refine t_3 vex_17 rfl (ar := ([pvR 154, oI 1], [])) (pcal_w (as := [oI 1]) rfl rfl rfl leo_154) ⟨by omega, Nat.le_of_ble_eq_true rfl, Nat.le_of_ble_eq_true rfl, rfl⟩ ?_
    refine vfl_run hK hB hS ⟨by omega, by omega⟩ (fun g6 hS6 => ?_) rfl rfl
    replace hS6 : lS K g0 g6 p (-1000 * 1 - p) k c o v le st co en := hS6
    show t_X d 41 20 lv [] g6 P
    refine t_0 vex_20 rfl (ld_a l0) ?_
    refine t_0 vex_21 rfl rfl ?_
    refine t_0 vex_22 rfl (pq_cv leo_154 rfl (show cF g6 154 2 = p from S_f hS6 0 (Nat.le_of_ble_eq_true rfl))) ?_
    show t_X d 41 25 lv [oI (p), pvR 154] g6 P
    refine t_0 vex_25 rfl (ld_a l0) ?_
    refine t_0 vex_26 rfl (pq_cv leo_154 rfl (show cF g6 154 3 = -1000 * 1 - p from S_f hS6 1 (Nat.le_of_ble_eq_true rfl))) ?_
    show t_X d 41 29 lv [oI (-1000 * 1 - p), oI (p), pvR 154] g6 P
    refine tz_ne vex_29 (by decide) ⟨by omega, by omega⟩ (fun c7 => ?_) (fun c7 => absurd c7 (by omega))
    show t_X d 41 36 lv [oI (p), pvR 154] g6 P
    refine t_0 vex_36 rfl rfl ?_
    refine t_0 vex_37 rfl pq_add ?_
    refine ts_f (n := 0) rfl rfl (lk_f0 hK) vex_38 rfl leo_154 hS6 (lk_w0 hK) lgy_154_2 (by decide) ⟨by omega, by omega⟩ (fun g8 hS8 => ?_)
    replace hS8 : lS K g0 g8 (p + 0) (-1000 * 1 - p) k c o v le st co en := hS8
    show t_X d 41 41 lv [] g8 P
    refine t_5 vex_41 rfl rfl ?_
    rw [show p + 0 = p by omega, show -1000 * 1 - p = -1000 - p by omega] at hS8
    exact h0 (by omega) _ hS8
theorem vxn_run {d : Nat} {K : Nat} (hK : lK K) {g0 g : pH} {B : tC} {n : Int} (hB : lB K g0 B n) {p f k c : Int} {o v le st co en : tC} (hS : lS K g0 g p f k c o v le st co en) (hf0 : f < 0) {P : Option pv × pH → Prop} (hP : ∀ g1 : pH, lS K g0 g1 p f k c o v le st co en → P (none, g1)) {lv : List (Nat × pv)} (l0 : px_lg lv 0 = some (pvR 154)) : t_X d 41 0 lv [] g P := by
  obtain ⟨hn, hp, hf, hk, hc, hH⟩ := lc_m hB hK hS
  refine t_0 vex_0 rfl (ld_a l0) ?_
  refine t_0 vex_1 rfl (pq_cv leo_154 rfl (show cF g 154 3 = f from S_f hS 1 (Nat.le_of_ble_eq_true rfl))) ?_
  show t_X d 41 4 lv [oI (f)] g P
  refine tz_ne vex_4 (by decide) ⟨by omega, by omega⟩ (fun c1 => ?_) (fun c1 => absurd c1 (by omega))
  show t_X d 41 20 lv [] g P
  refine t_0 vex_20 rfl (ld_a l0) ?_
  refine t_0 vex_21 rfl rfl ?_
  refine t_0 vex_22 rfl (pq_cv leo_154 rfl (show cF g 154 2 = p from S_f hS 0 (Nat.le_of_ble_eq_true rfl))) ?_
  show t_X d 41 25 lv [oI (p), pvR 154] g P
  refine t_0 vex_25 rfl (ld_a l0) ?_
  refine t_0 vex_26 rfl (pq_cv leo_154 rfl (show cF g 154 3 = f from S_f hS 1 (Nat.le_of_ble_eq_true rfl))) ?_
  show t_X d 41 29 lv [oI (f), oI (p), pvR 154] g P
  refine tz_ne vex_29 (by decide) ⟨by omega, by omega⟩ (fun c2 => ?_) (fun c2 => absurd c2 (by omega))
  show t_X d 41 36 lv [oI (p), pvR 154] g P
  refine t_0 vex_36 rfl rfl ?_
  refine t_0 vex_37 rfl pq_add ?_
  refine ts_f (n := 0) rfl rfl (lk_f0 hK) vex_38 rfl leo_154 hS (lk_w0 hK) lgy_154_2 (by decide) ⟨by omega, by omega⟩ (fun g3 hS3 => ?_)
  replace hS3 : lS K g0 g3 (p + 0) f k c o v le st co en := hS3
  show t_X d 41 41 lv [] g3 P
  refine t_5 vex_41 rfl rfl ?_
  rw [show p + 0 = p by omega] at hS3
  exact hP _ hS3
theorem vo1_run {d : Nat} {K : Nat} (hK : lK K) (hd : 8 ≤ d) {g0 g : pH} {B : tC} {n : Int} (hB : lB K g0 B n) {p k c : Int} {o v le st co en : tC} (hS : lS K g0 g p 0 k c o v le st co en) {P : Option pv × pH → Prop} (hP : P (some (oI (lC3 (tH B n p))), g)) {lv : List (Nat × pv)} (l0 : px_lg lv 0 = some (pvR 154)) (l1 : px_lg lv 1 = some (pvR 1002)) (l2 : px_lg lv 2 = some (oI 7)) : t_X d 45 0 lv [] g P := by
  obtain ⟨hn, hp, hf, hk, hc, hH⟩ := lc_m hB hK hS
  have hN : tH B n p = -1 → lC3 (tH B n p) = -1 := fun z => by rw [z]; decide
  refine t_0 vof_0 rfl (ld_a l0) ?_
  refine t_3 vof_1 rfl (ar := ([pvR 154], [])) (pcal_w (as := []) rfl rfl rfl leo_154) ⟨by omega, Nat.le_of_ble_eq_true rfl, Nat.le_of_ble_eq_true rfl, rfl⟩ ?_
  refine vsg_run hK hB hS ?_ rfl
  have b1 := hH p (by omega)
  have z1 := tH_n (B := B) (n := n) (p := p)
  show t_X d 45 4 lv [oI (tH B n p)] g P
  refine t_2 vof_4 rfl (w := (px_s1 lv 3 (oI (tH B n p)), [])) rfl ?_
  replace l0 : px_lg (px_s1 lv 3 (oI (tH B n p))) 0 = some (pvR 154) := s1_ne (by decide) (fun _ => rfl) l0
  replace l1 : px_lg (px_s1 lv 3 (oI (tH B n p))) 1 = some (pvR 1002) := s1_ne (by decide) (fun _ => rfl) l1
  replace l2 : px_lg (px_s1 lv 3 (oI (tH B n p))) 2 = some (oI 7) := s1_ne (by decide) (fun _ => rfl) l2
  have l3 : px_lg (px_s1 lv 3 (oI (tH B n p))) 3 = some (oI (tH B n p)) := s1_eq
  generalize px_s1 lv 3 (oI (tH B n p)) = lv2 at l0 l1 l2 l3 ⊢
  show t_X d 45 5 lv2 [] g P
  refine t_0 vof_5 rfl (ld_i l3) ?_
  refine t_0 vof_6 rfl rfl ?_
  refine tb_eq vof_7 (by decide) ⟨by omega, by omega⟩ ⟨by omega, by omega⟩ (fun c3 => ?_) (fun c3 => ?_)
  · show t_X d 45 17 lv2 [] g P
    refine t_0 vof_17 rfl rfl ?_
    refine t_1 vof_18 rfl (pb_goto (pc := 18) (by decide)) ?_
    show t_X d 45 27 lv2 [oI (-1)] g P
    refine t_2 vof_27 rfl (w := (px_s1 lv2 4 (oI (-1)), [])) rfl ?_
    replace l0 : px_lg (px_s1 lv2 4 (oI (-1))) 0 = some (pvR 154) := s1_ne (by decide) (fun _ => rfl) l0
    replace l1 : px_lg (px_s1 lv2 4 (oI (-1))) 1 = some (pvR 1002) := s1_ne (by decide) (fun _ => rfl) l1
    replace l2 : px_lg (px_s1 lv2 4 (oI (-1))) 2 = some (oI 7) := s1_ne (by decide) (fun _ => rfl) l2
    replace l3 : px_lg (px_s1 lv2 4 (oI (-1))) 3 = some (oI (tH B n p)) := s1_ne (by decide) (fun _ => rfl) l3
    have l4 : px_lg (px_s1 lv2 4 (oI (-1))) 4 = some (oI (-1)) := s1_eq
    generalize px_s1 lv2 4 (oI (-1)) = lv4 at l0 l1 l2 l3 l4 ⊢
    show t_X d 45 29 lv4 [] g P
    refine t_0 vof_29 rfl (ld_i l4) ?_
    refine tz_ge vof_31 (by decide) ⟨by omega, by omega⟩ (fun c5 => absurd c5 (by omega)) (fun c5 => ?_)
    show t_X d 45 34 lv4 [] g P
    refine t_0 vof_34 rfl rfl ?_
    refine t_1 vof_35 rfl (pb_goto (pc := 35) (by decide)) ?_
    show t_X d 45 42 lv4 [oI (-1)] g P
    refine t_5 vof_42 rfl rfl ?_
    have e9 : (-1) = lC3 (tH B n p) := by omega
    rw [e9]
    exact hP
  · show t_X d 45 10 lv2 [] g P
    refine t_0 vof_10 rfl (ld_a l0) ?_
    refine t_0 vof_11 rfl (pq_cv leo_154 rfl (show cF g 154 3 = 0 from S_f hS 1 (Nat.le_of_ble_eq_true rfl))) ?_
    show t_X d 45 14 lv2 [oI 0] g P
    refine tz_eq vof_14 (by decide) ⟨by omega, by omega⟩ (fun c6 => ?_) (fun c6 => absurd c6 (by omega))
    show t_X d 45 21 lv2 [] g P
    refine t_0 vof_21 rfl (ld_a l1) ?_
    refine t_0 vof_22 rfl (ld_i l3) ?_
    refine t_0 vof_23 rfl (pq_i2c ⟨by omega, by omega⟩) ?_
    refine tx_ix 1 (by decide) vof_24 rfl rfl (by omega) (Nat.le_of_ble_eq_true rfl) ⟨by omega, by omega⟩ ?_
    have y1 : lIx 1 (tH B n p) = if lC3 (tH B n p) = -1 then -1 else lC3 (tH B n p) - 7 := rfl
    have y9 := lC3_b (tH B n p)
    have y8 : (lIx 1 (tH B n p) = -1 ∧ lC3 (tH B n p) = -1) ∨ (7 ≤ lC3 (tH B n p) ∧ lIx 1 (tH B n p) = lC3 (tH B n p) - 7) := by rw [y1]; split <;> omega
    show t_X d 45 27 lv2 [oI (lIx 1 (tH B n p))] g P
    refine t_2 vof_27 rfl (w := (px_s1 lv2 4 (oI (lIx 1 (tH B n p))), [])) rfl ?_
    replace l0 : px_lg (px_s1 lv2 4 (oI (lIx 1 (tH B n p)))) 0 = some (pvR 154) := s1_ne (by decide) (fun _ => rfl) l0
    replace l1 : px_lg (px_s1 lv2 4 (oI (lIx 1 (tH B n p)))) 1 = some (pvR 1002) := s1_ne (by decide) (fun _ => rfl) l1
    replace l2 : px_lg (px_s1 lv2 4 (oI (lIx 1 (tH B n p)))) 2 = some (oI 7) := s1_ne (by decide) (fun _ => rfl) l2
    replace l3 : px_lg (px_s1 lv2 4 (oI (lIx 1 (tH B n p)))) 3 = some (oI (tH B n p)) := s1_ne (by decide) (fun _ => rfl) l3
    have l4 : px_lg (px_s1 lv2 4 (oI (lIx 1 (tH B n p)))) 4 = some (oI (lIx 1 (tH B n p))) := s1_eq
    generalize px_s1 lv2 4 (oI (lIx 1 (tH B n p))) = lv7 at l0 l1 l2 l3 l4 ⊢
    show t_X d 45 29 lv7 [] g P
    refine t_0 vof_29 rfl (ld_i l4) ?_
    refine tz_ge vof_31 (by decide) ⟨by omega, by omega⟩ (fun c8 => ?_) (fun c8 => ?_)
    · show t_X d 45 38 lv7 [] g P
      refine t_0 vof_38 rfl (ld_i l2) ?_
      refine t_0 vof_39 rfl (ld_i l4) ?_
      refine t_0 vof_41 rfl pq_add ?_
      refine t_5 vof_42 rfl rfl ?_
      have e9 : 7 + (lIx 1 (tH B n p)) = lC3 (tH B n p) := by omega
      rw [e9]
      exact hP
    · show t_X d 45 34 lv7 [] g P
      refine t_0 vof_34 rfl rfl ?_
      refine t_1 vof_35 rfl (pb_goto (pc := 35) (by decide)) ?_
      show t_X d 45 42 lv7 [oI (-1)] g P
      refine t_5 vof_42 rfl rfl ?_
      have e9 : (-1) = lC3 (tH B n p) := by omega
      rw [e9]
      exact hP
theorem vo3_run {d : Nat} {K : Nat} (hK : lK K) (hd : 8 ≤ d) {g0 g : pH} {B : tC} {n : Int} (hB : lB K g0 B n) {p k c : Int} {o v le st co en : tC} (hS : lS K g0 g p 0 k c o v le st co en) {P : Option pv × pH → Prop} (hP : P (some (oI (lS2 (tH B n p))), g)) {lv : List (Nat × pv)} (l0 : px_lg lv 0 = some (pvR 154)) (l1 : px_lg lv 1 = some (pvR 1004)) (l2 : px_lg lv 2 = some (oI 2)) : t_X d 45 0 lv [] g P := by
  obtain ⟨hn, hp, hf, hk, hc, hH⟩ := lc_m hB hK hS
  have hN : tH B n p = -1 → lS2 (tH B n p) = -1 := fun z => by rw [z]; decide
  refine t_0 vof_0 rfl (ld_a l0) ?_
  refine t_3 vof_1 rfl (ar := ([pvR 154], [])) (pcal_w (as := []) rfl rfl rfl leo_154) ⟨by omega, Nat.le_of_ble_eq_true rfl, Nat.le_of_ble_eq_true rfl, rfl⟩ ?_
  refine vsg_run hK hB hS ?_ rfl
  have b1 := hH p (by omega)
  have z1 := tH_n (B := B) (n := n) (p := p)
  show t_X d 45 4 lv [oI (tH B n p)] g P
  refine t_2 vof_4 rfl (w := (px_s1 lv 3 (oI (tH B n p)), [])) rfl ?_
  replace l0 : px_lg (px_s1 lv 3 (oI (tH B n p))) 0 = some (pvR 154) := s1_ne (by decide) (fun _ => rfl) l0
  replace l1 : px_lg (px_s1 lv 3 (oI (tH B n p))) 1 = some (pvR 1004) := s1_ne (by decide) (fun _ => rfl) l1
  replace l2 : px_lg (px_s1 lv 3 (oI (tH B n p))) 2 = some (oI 2) := s1_ne (by decide) (fun _ => rfl) l2
  have l3 : px_lg (px_s1 lv 3 (oI (tH B n p))) 3 = some (oI (tH B n p)) := s1_eq
  generalize px_s1 lv 3 (oI (tH B n p)) = lv2 at l0 l1 l2 l3 ⊢
  show t_X d 45 5 lv2 [] g P
  refine t_0 vof_5 rfl (ld_i l3) ?_
  refine t_0 vof_6 rfl rfl ?_
  refine tb_eq vof_7 (by decide) ⟨by omega, by omega⟩ ⟨by omega, by omega⟩ (fun c3 => ?_) (fun c3 => ?_)
  · show t_X d 45 17 lv2 [] g P
    refine t_0 vof_17 rfl rfl ?_
    refine t_1 vof_18 rfl (pb_goto (pc := 18) (by decide)) ?_
    show t_X d 45 27 lv2 [oI (-1)] g P
    refine t_2 vof_27 rfl (w := (px_s1 lv2 4 (oI (-1)), [])) rfl ?_
    replace l0 : px_lg (px_s1 lv2 4 (oI (-1))) 0 = some (pvR 154) := s1_ne (by decide) (fun _ => rfl) l0
    replace l1 : px_lg (px_s1 lv2 4 (oI (-1))) 1 = some (pvR 1004) := s1_ne (by decide) (fun _ => rfl) l1
    replace l2 : px_lg (px_s1 lv2 4 (oI (-1))) 2 = some (oI 2) := s1_ne (by decide) (fun _ => rfl) l2
    replace l3 : px_lg (px_s1 lv2 4 (oI (-1))) 3 = some (oI (tH B n p)) := s1_ne (by decide) (fun _ => rfl) l3
    have l4 : px_lg (px_s1 lv2 4 (oI (-1))) 4 = some (oI (-1)) := s1_eq
    generalize px_s1 lv2 4 (oI (-1)) = lv4 at l0 l1 l2 l3 l4 ⊢
    show t_X d 45 29 lv4 [] g P
    refine t_0 vof_29 rfl (ld_i l4) ?_
    refine tz_ge vof_31 (by decide) ⟨by omega, by omega⟩ (fun c5 => absurd c5 (by omega)) (fun c5 => ?_)
    show t_X d 45 34 lv4 [] g P
    refine t_0 vof_34 rfl rfl ?_
    refine t_1 vof_35 rfl (pb_goto (pc := 35) (by decide)) ?_
    show t_X d 45 42 lv4 [oI (-1)] g P
    refine t_5 vof_42 rfl rfl ?_
    have e9 : (-1) = lS2 (tH B n p) := by omega
    rw [e9]
    exact hP
  · show t_X d 45 10 lv2 [] g P
    refine t_0 vof_10 rfl (ld_a l0) ?_
    refine t_0 vof_11 rfl (pq_cv leo_154 rfl (show cF g 154 3 = 0 from S_f hS 1 (Nat.le_of_ble_eq_true rfl))) ?_
    show t_X d 45 14 lv2 [oI 0] g P
    refine tz_eq vof_14 (by decide) ⟨by omega, by omega⟩ (fun c6 => ?_) (fun c6 => absurd c6 (by omega))
    show t_X d 45 21 lv2 [] g P
    refine t_0 vof_21 rfl (ld_a l1) ?_
    refine t_0 vof_22 rfl (ld_i l3) ?_
    refine t_0 vof_23 rfl (pq_i2c ⟨by omega, by omega⟩) ?_
    refine tx_ix 3 (by decide) vof_24 rfl rfl (by omega) (Nat.le_of_ble_eq_true rfl) ⟨by omega, by omega⟩ ?_
    have y3 : lIx 3 (tH B n p) = if lS2 (tH B n p) = -1 then -1 else lS2 (tH B n p) - 2 := rfl
    have y9 := lS2_b (tH B n p)
    have y8 : (lIx 3 (tH B n p) = -1 ∧ lS2 (tH B n p) = -1) ∨ (2 ≤ lS2 (tH B n p) ∧ lIx 3 (tH B n p) = lS2 (tH B n p) - 2) := by rw [y3]; split <;> omega
    show t_X d 45 27 lv2 [oI (lIx 3 (tH B n p))] g P
    refine t_2 vof_27 rfl (w := (px_s1 lv2 4 (oI (lIx 3 (tH B n p))), [])) rfl ?_
    replace l0 : px_lg (px_s1 lv2 4 (oI (lIx 3 (tH B n p)))) 0 = some (pvR 154) := s1_ne (by decide) (fun _ => rfl) l0
    replace l1 : px_lg (px_s1 lv2 4 (oI (lIx 3 (tH B n p)))) 1 = some (pvR 1004) := s1_ne (by decide) (fun _ => rfl) l1
    replace l2 : px_lg (px_s1 lv2 4 (oI (lIx 3 (tH B n p)))) 2 = some (oI 2) := s1_ne (by decide) (fun _ => rfl) l2
    replace l3 : px_lg (px_s1 lv2 4 (oI (lIx 3 (tH B n p)))) 3 = some (oI (tH B n p)) := s1_ne (by decide) (fun _ => rfl) l3
    have l4 : px_lg (px_s1 lv2 4 (oI (lIx 3 (tH B n p)))) 4 = some (oI (lIx 3 (tH B n p))) := s1_eq
    generalize px_s1 lv2 4 (oI (lIx 3 (tH B n p))) = lv7 at l0 l1 l2 l3 l4 ⊢
    show t_X d 45 29 lv7 [] g P
    refine t_0 vof_29 rfl (ld_i l4) ?_
    refine tz_ge vof_31 (by decide) ⟨by omega, by omega⟩ (fun c8 => ?_) (fun c8 => ?_)
    · show t_X d 45 38 lv7 [] g P
      refine t_0 vof_38 rfl (ld_i l2) ?_
      refine t_0 vof_39 rfl (ld_i l4) ?_
      refine t_0 vof_41 rfl pq_add ?_
      refine t_5 vof_42 rfl rfl ?_
      have e9 : 2 + (lIx 3 (tH B n p)) = lS2 (tH B n p) := by omega
      rw [e9]
      exact hP
    · show t_X d 45 34 lv7 [] g P
      refine t_0 vof_34 rfl rfl ?_
      refine t_1 vof_35 rfl (pb_goto (pc := 35) (by decide)) ?_
      show t_X d 45 42 lv7 [oI (-1)] g P
      refine t_5 vof_42 rfl rfl ?_
      have e9 : (-1) = lS2 (tH B n p) := by omega
      rw [e9]
      exact hP
theorem vo4_run {d : Nat} {K : Nat} (hK : lK K) (hd : 8 ≤ d) {g0 g : pH} {B : tC} {n : Int} (hB : lB K g0 B n) {p k c : Int} {o v le st co en : tC} (hS : lS K g0 g p 0 k c o v le st co en) {P : Option pv × pH → Prop} (hP : P (some (oI (lT3 (tH B n p))), g)) {lv : List (Nat × pv)} (l0 : px_lg lv 0 = some (pvR 154)) (l1 : px_lg lv 1 = some (pvR 1005)) (l2 : px_lg lv 2 = some (oI 4)) : t_X d 45 0 lv [] g P := by
  obtain ⟨hn, hp, hf, hk, hc, hH⟩ := lc_m hB hK hS
  have hN : tH B n p = -1 → lT3 (tH B n p) = -1 := fun z => by rw [z]; decide
  refine t_0 vof_0 rfl (ld_a l0) ?_
  refine t_3 vof_1 rfl (ar := ([pvR 154], [])) (pcal_w (as := []) rfl rfl rfl leo_154) ⟨by omega, Nat.le_of_ble_eq_true rfl, Nat.le_of_ble_eq_true rfl, rfl⟩ ?_
  refine vsg_run hK hB hS ?_ rfl
  have b1 := hH p (by omega)
  have z1 := tH_n (B := B) (n := n) (p := p)
  show t_X d 45 4 lv [oI (tH B n p)] g P
  refine t_2 vof_4 rfl (w := (px_s1 lv 3 (oI (tH B n p)), [])) rfl ?_
  replace l0 : px_lg (px_s1 lv 3 (oI (tH B n p))) 0 = some (pvR 154) := s1_ne (by decide) (fun _ => rfl) l0
  replace l1 : px_lg (px_s1 lv 3 (oI (tH B n p))) 1 = some (pvR 1005) := s1_ne (by decide) (fun _ => rfl) l1
  replace l2 : px_lg (px_s1 lv 3 (oI (tH B n p))) 2 = some (oI 4) := s1_ne (by decide) (fun _ => rfl) l2
  have l3 : px_lg (px_s1 lv 3 (oI (tH B n p))) 3 = some (oI (tH B n p)) := s1_eq
  generalize px_s1 lv 3 (oI (tH B n p)) = lv2 at l0 l1 l2 l3 ⊢
  show t_X d 45 5 lv2 [] g P
  refine t_0 vof_5 rfl (ld_i l3) ?_
  refine t_0 vof_6 rfl rfl ?_
  refine tb_eq vof_7 (by decide) ⟨by omega, by omega⟩ ⟨by omega, by omega⟩ (fun c3 => ?_) (fun c3 => ?_)
  · show t_X d 45 17 lv2 [] g P
    refine t_0 vof_17 rfl rfl ?_
    refine t_1 vof_18 rfl (pb_goto (pc := 18) (by decide)) ?_
    show t_X d 45 27 lv2 [oI (-1)] g P
    refine t_2 vof_27 rfl (w := (px_s1 lv2 4 (oI (-1)), [])) rfl ?_
    replace l0 : px_lg (px_s1 lv2 4 (oI (-1))) 0 = some (pvR 154) := s1_ne (by decide) (fun _ => rfl) l0
    replace l1 : px_lg (px_s1 lv2 4 (oI (-1))) 1 = some (pvR 1005) := s1_ne (by decide) (fun _ => rfl) l1
    replace l2 : px_lg (px_s1 lv2 4 (oI (-1))) 2 = some (oI 4) := s1_ne (by decide) (fun _ => rfl) l2
    replace l3 : px_lg (px_s1 lv2 4 (oI (-1))) 3 = some (oI (tH B n p)) := s1_ne (by decide) (fun _ => rfl) l3
    have l4 : px_lg (px_s1 lv2 4 (oI (-1))) 4 = some (oI (-1)) := s1_eq
    generalize px_s1 lv2 4 (oI (-1)) = lv4 at l0 l1 l2 l3 l4 ⊢
    show t_X d 45 29 lv4 [] g P
    refine t_0 vof_29 rfl (ld_i l4) ?_
    refine tz_ge vof_31 (by decide) ⟨by omega, by omega⟩ (fun c5 => absurd c5 (by omega)) (fun c5 => ?_)
    show t_X d 45 34 lv4 [] g P
    refine t_0 vof_34 rfl rfl ?_
    refine t_1 vof_35 rfl (pb_goto (pc := 35) (by decide)) ?_
    show t_X d 45 42 lv4 [oI (-1)] g P
    refine t_5 vof_42 rfl rfl ?_
    have e9 : (-1) = lT3 (tH B n p) := by omega
    rw [e9]
    exact hP
  · show t_X d 45 10 lv2 [] g P
    refine t_0 vof_10 rfl (ld_a l0) ?_
    refine t_0 vof_11 rfl (pq_cv leo_154 rfl (show cF g 154 3 = 0 from S_f hS 1 (Nat.le_of_ble_eq_true rfl))) ?_
    show t_X d 45 14 lv2 [oI 0] g P
    refine tz_eq vof_14 (by decide) ⟨by omega, by omega⟩ (fun c6 => ?_) (fun c6 => absurd c6 (by omega))
    show t_X d 45 21 lv2 [] g P
    refine t_0 vof_21 rfl (ld_a l1) ?_
    refine t_0 vof_22 rfl (ld_i l3) ?_
    refine t_0 vof_23 rfl (pq_i2c ⟨by omega, by omega⟩) ?_
    refine tx_ix 4 (by decide) vof_24 rfl rfl (by omega) (Nat.le_of_ble_eq_true rfl) ⟨by omega, by omega⟩ ?_
    have y4 : lIx 4 (tH B n p) = if lT3 (tH B n p) = -1 then -1 else lT3 (tH B n p) - 4 := rfl
    have y9 := lT3_b (tH B n p)
    have y8 : (lIx 4 (tH B n p) = -1 ∧ lT3 (tH B n p) = -1) ∨ (4 ≤ lT3 (tH B n p) ∧ lIx 4 (tH B n p) = lT3 (tH B n p) - 4) := by rw [y4]; split <;> omega
    show t_X d 45 27 lv2 [oI (lIx 4 (tH B n p))] g P
    refine t_2 vof_27 rfl (w := (px_s1 lv2 4 (oI (lIx 4 (tH B n p))), [])) rfl ?_
    replace l0 : px_lg (px_s1 lv2 4 (oI (lIx 4 (tH B n p)))) 0 = some (pvR 154) := s1_ne (by decide) (fun _ => rfl) l0
    replace l1 : px_lg (px_s1 lv2 4 (oI (lIx 4 (tH B n p)))) 1 = some (pvR 1005) := s1_ne (by decide) (fun _ => rfl) l1
    replace l2 : px_lg (px_s1 lv2 4 (oI (lIx 4 (tH B n p)))) 2 = some (oI 4) := s1_ne (by decide) (fun _ => rfl) l2
    replace l3 : px_lg (px_s1 lv2 4 (oI (lIx 4 (tH B n p)))) 3 = some (oI (tH B n p)) := s1_ne (by decide) (fun _ => rfl) l3
    have l4 : px_lg (px_s1 lv2 4 (oI (lIx 4 (tH B n p)))) 4 = some (oI (lIx 4 (tH B n p))) := s1_eq
    generalize px_s1 lv2 4 (oI (lIx 4 (tH B n p))) = lv7 at l0 l1 l2 l3 l4 ⊢
    show t_X d 45 29 lv7 [] g P
    refine t_0 vof_29 rfl (ld_i l4) ?_
    refine tz_ge vof_31 (by decide) ⟨by omega, by omega⟩ (fun c8 => ?_) (fun c8 => ?_)
    · show t_X d 45 38 lv7 [] g P
      refine t_0 vof_38 rfl (ld_i l2) ?_
      refine t_0 vof_39 rfl (ld_i l4) ?_
      refine t_0 vof_41 rfl pq_add ?_
      refine t_5 vof_42 rfl rfl ?_
      have e9 : 4 + (lIx 4 (tH B n p)) = lT3 (tH B n p) := by omega
      rw [e9]
      exact hP
    · show t_X d 45 34 lv7 [] g P
      refine t_0 vof_34 rfl rfl ?_
      refine t_1 vof_35 rfl (pb_goto (pc := 35) (by decide)) ?_
      show t_X d 45 42 lv7 [oI (-1)] g P
      refine t_5 vof_42 rfl rfl ?_
      have e9 : (-1) = lT3 (tH B n p) := by omega
      rw [e9]
      exact hP
theorem von_run {d : Nat} {K : Nat} (hK : lK K) (hd : 1 ≤ d) {g0 g : pH} {B : tC} {n : Int} (hB : lB K g0 B n) {p f k c : Int} {o v le st co en : tC} (hS : lS K g0 g p f k c o v le st co en) (hf0 : f < 0) {P : Option pv × pH → Prop} (hP : P (some (oI (-1)), g)) {lv : List (Nat × pv)} (l0 : px_lg lv 0 = some (pvR 154)) : t_X d 45 0 lv [] g P := by
  obtain ⟨hn, hp, hf, hk, hc, hH⟩ := lc_m hB hK hS
  refine t_0 vof_0 rfl (ld_a l0) ?_
  refine t_3 vof_1 rfl (ar := ([pvR 154], [])) (pcal_w (as := []) rfl rfl rfl leo_154) ⟨by omega, Nat.le_of_ble_eq_true rfl, Nat.le_of_ble_eq_true rfl, rfl⟩ ?_
  refine vsg_run hK hB hS ?_ rfl
  have b1 := hH p (by omega)
  have z1 := tH_n (B := B) (n := n) (p := p)
  show t_X d 45 4 lv [oI (tH B n p)] g P
  refine t_2 vof_4 rfl (w := (px_s1 lv 3 (oI (tH B n p)), [])) rfl ?_
  replace l0 : px_lg (px_s1 lv 3 (oI (tH B n p))) 0 = some (pvR 154) := s1_ne (by decide) (fun _ => rfl) l0
  have l3 : px_lg (px_s1 lv 3 (oI (tH B n p))) 3 = some (oI (tH B n p)) := s1_eq
  generalize px_s1 lv 3 (oI (tH B n p)) = lv2 at l0 l3 ⊢
  show t_X d 45 5 lv2 [] g P
  refine t_0 vof_5 rfl (ld_i l3) ?_
  refine t_0 vof_6 rfl rfl ?_
  refine tb_eq vof_7 (by decide) ⟨by omega, by omega⟩ ⟨by omega, by omega⟩ (fun c3 => ?_) (fun c3 => ?_)
  · show t_X d 45 17 lv2 [] g P
    refine t_0 vof_17 rfl rfl ?_
    refine t_1 vof_18 rfl (pb_goto (pc := 18) (by decide)) ?_
    show t_X d 45 27 lv2 [oI (-1)] g P
    refine t_2 vof_27 rfl (w := (px_s1 lv2 4 (oI (-1)), [])) rfl ?_
    replace l0 : px_lg (px_s1 lv2 4 (oI (-1))) 0 = some (pvR 154) := s1_ne (by decide) (fun _ => rfl) l0
    replace l3 : px_lg (px_s1 lv2 4 (oI (-1))) 3 = some (oI (tH B n p)) := s1_ne (by decide) (fun _ => rfl) l3
    have l4 : px_lg (px_s1 lv2 4 (oI (-1))) 4 = some (oI (-1)) := s1_eq
    generalize px_s1 lv2 4 (oI (-1)) = lv4 at l0 l3 l4 ⊢
    show t_X d 45 29 lv4 [] g P
    refine t_0 vof_29 rfl (ld_i l4) ?_
    refine tz_ge vof_31 (by decide) ⟨by omega, by omega⟩ (fun c5 => absurd c5 (by omega)) (fun c5 => ?_)
    show t_X d 45 34 lv4 [] g P
    refine t_0 vof_34 rfl rfl ?_
    refine t_1 vof_35 rfl (pb_goto (pc := 35) (by decide)) ?_
    show t_X d 45 42 lv4 [oI (-1)] g P
    refine t_5 vof_42 rfl rfl ?_
    exact hP
  · show t_X d 45 10 lv2 [] g P
    refine t_0 vof_10 rfl (ld_a l0) ?_
    refine t_0 vof_11 rfl (pq_cv leo_154 rfl (show cF g 154 3 = f from S_f hS 1 (Nat.le_of_ble_eq_true rfl))) ?_
    show t_X d 45 14 lv2 [oI (f)] g P
    refine tz_eq vof_14 (by decide) ⟨by omega, by omega⟩ (fun c6 => absurd c6 (by omega)) (fun c6 => ?_)
    show t_X d 45 17 lv2 [] g P
    refine t_0 vof_17 rfl rfl ?_
    refine t_1 vof_18 rfl (pb_goto (pc := 18) (by decide)) ?_
    show t_X d 45 27 lv2 [oI (-1)] g P
    refine t_2 vof_27 rfl (w := (px_s1 lv2 4 (oI (-1)), [])) rfl ?_
    replace l0 : px_lg (px_s1 lv2 4 (oI (-1))) 0 = some (pvR 154) := s1_ne (by decide) (fun _ => rfl) l0
    replace l3 : px_lg (px_s1 lv2 4 (oI (-1))) 3 = some (oI (tH B n p)) := s1_ne (by decide) (fun _ => rfl) l3
    have l4 : px_lg (px_s1 lv2 4 (oI (-1))) 4 = some (oI (-1)) := s1_eq
    generalize px_s1 lv2 4 (oI (-1)) = lv7 at l0 l3 l4 ⊢
    show t_X d 45 29 lv7 [] g P
    refine t_0 vof_29 rfl (ld_i l4) ?_
    refine tz_ge vof_31 (by decide) ⟨by omega, by omega⟩ (fun c8 => absurd c8 (by omega)) (fun c8 => ?_)
    show t_X d 45 34 lv7 [] g P
    refine t_0 vof_34 rfl rfl ?_
    refine t_1 vof_35 rfl (pb_goto (pc := 35) (by decide)) ?_
    show t_X d 45 42 lv7 [oI (-1)] g P
    refine t_5 vof_42 rfl rfl ?_
    exact hP
set_option maxHeartbeats 4000000 in
theorem vnu_l {d : Nat} {K : Nat} (hK : lK K) (hd : 1 ≤ d) {g0 : pH} {B : tC} {n : Int} (hB : lB K g0 B n) {p k c : Int} {o v le st co en : tC} (hkp : 0 ≤ p ∧ 0 ≤ k ∧ k ≤ p ∧ p < n) (hd0 : tDg (tH B n p)) {P : Option pv × pH → Prop} (hF : ∀ (g1 : pH) (f q : Int), lS K g0 g1 q f k c o v le st co en → lNf (tH B n) p f → P (none, g1)) (hO : ∀ (g1 : pH) (x q : Int), lS K g0 g1 q 0 (k + 1) c (updI o k.toNat 0) (updI v k.toNat x) le st co en → lNu (tH B n) p x q → P (none, g1)) : ∀ (y i : Nat) (g : pH) (lv : List (Nat × pv)), 5 - i ≤ y → i ≤ 5 → lS K g0 g (p + (i : Int)) 0 k c o v le st co en → (∀ j : Nat, j < i → tDg (tH B n (p + j))) → px_lg lv 0 = some (pvR 154) → px_lg lv 1 = some (oI (lV (tH B n) p i)) → px_lg lv 2 = some (oI (i : Int)) → t_X d 51 4 lv [] g P := by
  have key : ∀ i : Nat, i ≤ 5 → (∀ j : Nat, j < i → tDg (tH B n (p + j))) → p + i ≤ n ∧ 0 ≤ lV (tH B n) p i ∧ lV (tH B n) p i ≤ 99999 ∧ (i = 0 → tDg (tH B n (p + i))) := fun i hi h => by
    have h5 := lV_b h
    have h6 : (10 : Int) ^ i ≤ 100000 := by
      have : i = 0 ∨ i = 1 ∨ i = 2 ∨ i = 3 ∨ i = 4 ∨ i = 5 := by omega
      rcases this with rfl | rfl | rfl | rfl | rfl | rfl <;> decide
    refine ⟨?_, h5.1, by omega, fun e => by rw [e, show p + ((0 : Nat) : Int) = p by omega]; exact hd0⟩
    rcases Nat.eq_zero_or_pos i with e | e
    · omega
    · have h7 := h (i - 1) (by omega)
      have h8 := tH_n (B := B) (n := n) (p := p + ((i - 1 : Nat) : Int))
      unfold tDg at h7
      omega
  intro y
  induction y with
  | zero =>
    intro i g lv hy hi hS hd9 l0 l1 l2
    obtain ⟨k1, k2, k3, k4⟩ := key i hi hd9
    unfold tDg at k4
    obtain ⟨hn, hp, hf, hk, hc, hH⟩ := lc_m hB hK hS
    refine t_0 vnu_4 rfl (ld_i l2) ?_
    refine t_0 vnu_5 rfl rfl ?_
    refine tb_ge vnu_6 (by decide) ⟨by omega, by omega⟩ ⟨by omega, by omega⟩ (fun c1 => ?_) (fun c1 => absurd c1 (by omega))
    show t_X d 51 52 lv [] g P
    refine t_0 vnu_52 rfl (ld_a l0) ?_
    refine t_3 vnu_53 rfl (ar := ([pvR 154], [])) (pcal_w (as := []) rfl rfl rfl leo_154) ⟨by omega, Nat.le_of_ble_eq_true rfl, Nat.le_of_ble_eq_true rfl, rfl⟩ ?_
    refine vsg_run hK hB hS ?_ rfl
    have b2 := hH (p + (i : Int)) (by omega)
    have z2 := tH_n (B := B) (n := n) (p := p + (i : Int))
    show t_X d 51 56 lv [oI (tH B n (p + (i : Int)))] g P
    refine t_0 vnu_56 rfl (pq_b (by decide)) ?_
    refine t_0 vnu_58 rfl (pq_b (by decide)) ?_
    refine t_3 vnu_60 rfl (ar := ([oI (tH B n (p + (i : Int))), oI 48, oI 57], [])) (pcal_s ⟨Or.inr rfl, rfl, Nat.le_of_ble_eq_true rfl⟩) ⟨by omega, Nat.le_of_ble_eq_true rfl, Nat.le_of_ble_eq_true rfl, rfl⟩ ?_
    refine ii_run ⟨by omega, by omega⟩ ⟨by omega, by omega⟩ ⟨by omega, by omega⟩ rfl rfl rfl (fun t3 => ?_) (fun t3 => ?_)
    · show t_X d 51 63 lv [oI 1] g P
      refine tz_eq vnu_63 (by decide) ⟨by omega, by omega⟩ (fun c4 => absurd c4 (by omega)) (fun c4 => ?_)
      show t_X d 51 66 lv [] g P
      refine t_0 vnu_66 rfl (ld_a l0) ?_
      refine t_0 vnu_67 rfl rfl ?_
      refine t_3 vnu_68 rfl (ar := ([pvR 154, oI 2], [])) (pcal_w (as := [oI 2]) rfl rfl rfl leo_154) ⟨by omega, Nat.le_of_ble_eq_true rfl, Nat.le_of_ble_eq_true rfl, rfl⟩ ?_
      refine vfl_run hK hB hS ⟨by omega, by omega⟩ (fun g5 hS5 => ?_) rfl rfl
      replace hS5 : lS K g0 g5 (p + (i : Int)) (-1000 * 2 - (p + (i : Int))) k c o v le st co en := hS5
      show t_X d 51 71 lv [] g5 P
      refine t_5 vnu_71 rfl rfl ?_
      refine hF _ _ _ hS5 ⟨fun j hj => ?_, by omega⟩
      rcases Nat.lt_or_ge j 5 with q | q
      · exact hd9 j (by omega)
      · rw [show p + (j : Int) = p + (i : Int) by omega]; unfold tDg; omega
    · show t_X d 51 63 lv [oI 0] g P
      refine tz_eq vnu_63 (by decide) ⟨by omega, by omega⟩ (fun c6 => ?_) (fun c6 => absurd c6 (by omega))
      show t_X d 51 72 lv [] g P
      refine t_0 vnu_72 rfl (ld_a l0) ?_
      refine t_0 vnu_73 rfl (pq_ro leo_154 rfl (lc_c hB hK hS)) ?_
      show t_X d 51 76 lv [pvR K] g P
      refine t_0 vnu_76 rfl rfl ?_
      refine t_0 vnu_77 rfl (ld_i l1) ?_
      refine t_3 vnu_78 rfl (ar := ([pvR K, oI 0, oI (lV (tH B n) p i)], [])) (pcal_w (as := [oI (lV (tH B n) p i), oI 0]) rfl rfl rfl (lk_e hK)) ⟨by omega, Nat.le_of_ble_eq_true rfl, Nat.le_of_ble_eq_true rfl, rfl⟩ ?_
      refine vem_run hK hB hS ⟨by omega, by omega⟩ ⟨by omega, by omega⟩ (fun _ g7 hS7 => ?_) (fun t7 => absurd t7 (by omega)) rfl rfl rfl
      replace hS7 : lS K g0 g7 (p + (i : Int)) 0 (k + 1) c (updI o k.toNat 0) (updI v k.toNat (lV (tH B n) p i)) le st co en := hS7
      show t_X d 51 81 lv [oI (k)] g7 P
      refine t_0 vnu_81 rfl rfl ?_
      refine t_5 vnu_82 rfl rfl ?_
      exact hO _ _ _ hS7 ⟨i, by omega, by omega, hd9, by unfold tDg; omega, rfl, rfl⟩
  | succ y ih =>
    intro i g lv hy hi hS hd9 l0 l1 l2
    obtain ⟨k1, k2, k3, k4⟩ := key i hi hd9
    unfold tDg at k4
    obtain ⟨hn, hp, hf, hk, hc, hH⟩ := lc_m hB hK hS
    by_cases hii : i < 5
    · skip
      refine t_0 vnu_4 rfl (ld_i l2) ?_
      refine t_0 vnu_5 rfl rfl ?_
      refine tb_ge vnu_6 (by decide) ⟨by omega, by omega⟩ ⟨by omega, by omega⟩ (fun c1 => absurd c1 (by omega)) (fun c1 => ?_)
      show t_X d 51 9 lv [] g P
      refine t_0 vnu_9 rfl (ld_a l0) ?_
      refine t_3 vnu_10 rfl (ar := ([pvR 154], [])) (pcal_w (as := []) rfl rfl rfl leo_154) ⟨by omega, Nat.le_of_ble_eq_true rfl, Nat.le_of_ble_eq_true rfl, rfl⟩ ?_
      refine vsg_run hK hB hS ?_ rfl
      have b2 := hH (p + (i : Int)) (by omega)
      have z2 := tH_n (B := B) (n := n) (p := p + (i : Int))
      show t_X d 51 13 lv [oI (tH B n (p + (i : Int)))] g P
      refine t_0 vnu_13 rfl (pq_b (by decide)) ?_
      refine t_0 vnu_15 rfl (pq_b (by decide)) ?_
      refine t_3 vnu_17 rfl (ar := ([oI (tH B n (p + (i : Int))), oI 48, oI 57], [])) (pcal_s ⟨Or.inr rfl, rfl, Nat.le_of_ble_eq_true rfl⟩) ⟨by omega, Nat.le_of_ble_eq_true rfl, Nat.le_of_ble_eq_true rfl, rfl⟩ ?_
      refine ii_run ⟨by omega, by omega⟩ ⟨by omega, by omega⟩ ⟨by omega, by omega⟩ rfl rfl rfl (fun t3 => ?_) (fun t3 => ?_)
      · show t_X d 51 20 lv [oI 1] g P
        refine tz_eq vnu_20 (by decide) ⟨by omega, by omega⟩ (fun c4 => absurd c4 (by omega)) (fun c4 => ?_)
        show t_X d 51 23 lv [] g P
        refine t_0 vnu_23 rfl (pq_b (by decide)) ?_
        refine t_0 vnu_25 rfl (ld_i l1) ?_
        refine t_0 vnu_26 rfl pq_mul ?_
        refine t_0 vnu_27 rfl (ld_a l0) ?_
        refine t_3 vnu_28 rfl (ar := ([pvR 154], [oI (10 * (lV (tH B n) p i))])) (pcal_w (as := []) rfl rfl rfl leo_154) ⟨by omega, Nat.le_of_ble_eq_true rfl, Nat.le_of_ble_eq_true rfl, rfl⟩ ?_
        refine vsg_run hK hB hS ?_ rfl
        show t_X d 51 31 lv [oI (tH B n (p + (i : Int))), oI (10 * (lV (tH B n) p i))] g P
        refine t_0 vnu_31 rfl pq_add ?_
        refine t_0 vnu_32 rfl (pq_b (by decide)) ?_
        refine t_0 vnu_34 rfl pq_sub ?_
        refine t_2 vnu_35 rfl (w := (px_s1 lv 1 (oI (((10 * (lV (tH B n) p i)) + (tH B n (p + (i : Int)))) - 48)), [])) rfl ?_
        replace l0 : px_lg (px_s1 lv 1 (oI (((10 * (lV (tH B n) p i)) + (tH B n (p + (i : Int)))) - 48))) 0 = some (pvR 154) := s1_ne (by decide) (fun _ => rfl) l0
        replace l2 : px_lg (px_s1 lv 1 (oI (((10 * (lV (tH B n) p i)) + (tH B n (p + (i : Int)))) - 48))) 2 = some (oI ((i : Int))) := s1_ne (by decide) (fun _ => rfl) l2
        have l1 : px_lg (px_s1 lv 1 (oI (((10 * (lV (tH B n) p i)) + (tH B n (p + (i : Int)))) - 48))) 1 = some (oI (((10 * (lV (tH B n) p i)) + (tH B n (p + (i : Int)))) - 48)) := s1_eq
        generalize px_s1 lv 1 (oI (((10 * (lV (tH B n) p i)) + (tH B n (p + (i : Int)))) - 48)) = lv5 at l0 l2 l1 ⊢
        show t_X d 51 36 lv5 [] g P
        refine t_0 vnu_36 rfl (ld_a l0) ?_
        refine t_0 vnu_37 rfl rfl ?_
        refine t_0 vnu_38 rfl (pq_cv leo_154 rfl (show cF g 154 2 = p + (i : Int) from S_f hS 0 (Nat.le_of_ble_eq_true rfl))) ?_
        show t_X d 51 41 lv5 [oI (p + (i : Int)), pvR 154] g P
        refine t_0 vnu_41 rfl rfl ?_
        refine t_0 vnu_42 rfl pq_add ?_
        refine ts_f (n := 0) rfl rfl (lk_f0 hK) vnu_43 rfl leo_154 hS (lk_w0 hK) lgy_154_2 (by decide) ⟨by omega, by omega⟩ (fun g6 hS6 => ?_)
        replace hS6 : lS K g0 g6 ((p + (i : Int)) + 1) 0 k c o v le st co en := hS6
        show t_X d 51 46 lv5 [] g6 P
        refine t_2 vnu_46 rfl (w := (px_s1 lv5 2 (oI ((i : Int) + 1)), [])) (pq_inc l2 (by decide)) ?_
        replace l0 : px_lg (px_s1 lv5 2 (oI ((i : Int) + 1))) 0 = some (pvR 154) := s1_ne (by decide) (fun _ => rfl) l0
        replace l1 : px_lg (px_s1 lv5 2 (oI ((i : Int) + 1))) 1 = some (oI (((10 * (lV (tH B n) p i)) + (tH B n (p + (i : Int)))) - 48)) := s1_ne (by decide) (fun _ => rfl) l1
        have l2 : px_lg (px_s1 lv5 2 (oI ((i : Int) + 1))) 2 = some (oI ((i : Int) + 1)) := s1_eq
        generalize px_s1 lv5 2 (oI ((i : Int) + 1)) = lv7 at l0 l1 l2 ⊢
        show t_X d 51 49 lv7 [] g6 P
        refine t_1 vnu_49 rfl (pb_goto (pc := 49) (by decide)) ?_
        show t_X d 51 4 lv7 [] g6 P
        refine ih (i + 1) _ _ (by omega) (by omega) (show lS K g0 g6 (p + ((i + 1 : Nat) : Int)) 0 k c o v le st co en by rw [show p + ((i + 1 : Nat) : Int) = p + (i : Int) + 1 by omega]; exact hS6) (fun j hj => ?_) l0 (by rw [l1]; exact congrArg (fun x => some (oI x)) (by show _ = 10 * lV (tH B n) p i + (tH B n (p + i) - 48); omega)) (l2.trans (congrArg (fun x => some (oI x)) (by omega)))
        rcases Nat.lt_or_ge j i with q | q
        · exact hd9 j q
        · rw [show j = i by omega]; unfold tDg; omega
      · show t_X d 51 20 lv [oI 0] g P
        refine tz_eq vnu_20 (by decide) ⟨by omega, by omega⟩ (fun c8 => ?_) (fun c8 => absurd c8 (by omega))
        show t_X d 51 52 lv [] g P
        refine t_0 vnu_52 rfl (ld_a l0) ?_
        refine t_3 vnu_53 rfl (ar := ([pvR 154], [])) (pcal_w (as := []) rfl rfl rfl leo_154) ⟨by omega, Nat.le_of_ble_eq_true rfl, Nat.le_of_ble_eq_true rfl, rfl⟩ ?_
        refine vsg_run hK hB hS ?_ rfl
        show t_X d 51 56 lv [oI (tH B n (p + (i : Int)))] g P
        refine t_0 vnu_56 rfl (pq_b (by decide)) ?_
        refine t_0 vnu_58 rfl (pq_b (by decide)) ?_
        refine t_3 vnu_60 rfl (ar := ([oI (tH B n (p + (i : Int))), oI 48, oI 57], [])) (pcal_s ⟨Or.inr rfl, rfl, Nat.le_of_ble_eq_true rfl⟩) ⟨by omega, Nat.le_of_ble_eq_true rfl, Nat.le_of_ble_eq_true rfl, rfl⟩ ?_
        refine ii_run ⟨by omega, by omega⟩ ⟨by omega, by omega⟩ ⟨by omega, by omega⟩ rfl rfl rfl (fun t9 => ?_) (fun t9 => ?_)
        · show t_X d 51 63 lv [oI 1] g P
          refine tz_eq vnu_63 (by decide) ⟨by omega, by omega⟩ (fun c10 => absurd c10 (by omega)) (fun c10 => ?_)
          show t_X d 51 66 lv [] g P
          refine t_0 vnu_66 rfl (ld_a l0) ?_
          refine t_0 vnu_67 rfl rfl ?_
          refine t_3 vnu_68 rfl (ar := ([pvR 154, oI 2], [])) (pcal_w (as := [oI 2]) rfl rfl rfl leo_154) ⟨by omega, Nat.le_of_ble_eq_true rfl, Nat.le_of_ble_eq_true rfl, rfl⟩ ?_
          refine vfl_run hK hB hS ⟨by omega, by omega⟩ (fun g11 hS11 => ?_) rfl rfl
          replace hS11 : lS K g0 g11 (p + (i : Int)) (-1000 * 2 - (p + (i : Int))) k c o v le st co en := hS11
          show t_X d 51 71 lv [] g11 P
          refine t_5 vnu_71 rfl rfl ?_
          refine hF _ _ _ hS11 ⟨fun j hj => ?_, by omega⟩
          rcases Nat.lt_or_ge j 5 with q | q
          · exact hd9 j (by omega)
          · rw [show p + (j : Int) = p + (i : Int) by omega]; unfold tDg; omega
        · show t_X d 51 63 lv [oI 0] g P
          refine tz_eq vnu_63 (by decide) ⟨by omega, by omega⟩ (fun c12 => ?_) (fun c12 => absurd c12 (by omega))
          show t_X d 51 72 lv [] g P
          refine t_0 vnu_72 rfl (ld_a l0) ?_
          refine t_0 vnu_73 rfl (pq_ro leo_154 rfl (lc_c hB hK hS)) ?_
          show t_X d 51 76 lv [pvR K] g P
          refine t_0 vnu_76 rfl rfl ?_
          refine t_0 vnu_77 rfl (ld_i l1) ?_
          refine t_3 vnu_78 rfl (ar := ([pvR K, oI 0, oI (lV (tH B n) p i)], [])) (pcal_w (as := [oI (lV (tH B n) p i), oI 0]) rfl rfl rfl (lk_e hK)) ⟨by omega, Nat.le_of_ble_eq_true rfl, Nat.le_of_ble_eq_true rfl, rfl⟩ ?_
          refine vem_run hK hB hS ⟨by omega, by omega⟩ ⟨by omega, by omega⟩ (fun _ g13 hS13 => ?_) (fun t13 => absurd t13 (by omega)) rfl rfl rfl
          replace hS13 : lS K g0 g13 (p + (i : Int)) 0 (k + 1) c (updI o k.toNat 0) (updI v k.toNat (lV (tH B n) p i)) le st co en := hS13
          show t_X d 51 81 lv [oI (k)] g13 P
          refine t_0 vnu_81 rfl rfl ?_
          refine t_5 vnu_82 rfl rfl ?_
          exact hO _ _ _ hS13 ⟨i, by omega, by omega, hd9, by unfold tDg; omega, rfl, rfl⟩
    · skip
      refine t_0 vnu_4 rfl (ld_i l2) ?_
      refine t_0 vnu_5 rfl rfl ?_
      refine tb_ge vnu_6 (by decide) ⟨by omega, by omega⟩ ⟨by omega, by omega⟩ (fun c1 => ?_) (fun c1 => absurd c1 (by omega))
      show t_X d 51 52 lv [] g P
      refine t_0 vnu_52 rfl (ld_a l0) ?_
      refine t_3 vnu_53 rfl (ar := ([pvR 154], [])) (pcal_w (as := []) rfl rfl rfl leo_154) ⟨by omega, Nat.le_of_ble_eq_true rfl, Nat.le_of_ble_eq_true rfl, rfl⟩ ?_
      refine vsg_run hK hB hS ?_ rfl
      have b2 := hH (p + (i : Int)) (by omega)
      have z2 := tH_n (B := B) (n := n) (p := p + (i : Int))
      show t_X d 51 56 lv [oI (tH B n (p + (i : Int)))] g P
      refine t_0 vnu_56 rfl (pq_b (by decide)) ?_
      refine t_0 vnu_58 rfl (pq_b (by decide)) ?_
      refine t_3 vnu_60 rfl (ar := ([oI (tH B n (p + (i : Int))), oI 48, oI 57], [])) (pcal_s ⟨Or.inr rfl, rfl, Nat.le_of_ble_eq_true rfl⟩) ⟨by omega, Nat.le_of_ble_eq_true rfl, Nat.le_of_ble_eq_true rfl, rfl⟩ ?_
      refine ii_run ⟨by omega, by omega⟩ ⟨by omega, by omega⟩ ⟨by omega, by omega⟩ rfl rfl rfl (fun t3 => ?_) (fun t3 => ?_)
      · show t_X d 51 63 lv [oI 1] g P
        refine tz_eq vnu_63 (by decide) ⟨by omega, by omega⟩ (fun c4 => absurd c4 (by omega)) (fun c4 => ?_)
        show t_X d 51 66 lv [] g P
        refine t_0 vnu_66 rfl (ld_a l0) ?_
        refine t_0 vnu_67 rfl rfl ?_
        refine t_3 vnu_68 rfl (ar := ([pvR 154, oI 2], [])) (pcal_w (as := [oI 2]) rfl rfl rfl leo_154) ⟨by omega, Nat.le_of_ble_eq_true rfl, Nat.le_of_ble_eq_true rfl, rfl⟩ ?_
        refine vfl_run hK hB hS ⟨by omega, by omega⟩ (fun g5 hS5 => ?_) rfl rfl
        replace hS5 : lS K g0 g5 (p + (i : Int)) (-1000 * 2 - (p + (i : Int))) k c o v le st co en := hS5
        show t_X d 51 71 lv [] g5 P
        refine t_5 vnu_71 rfl rfl ?_
        refine hF _ _ _ hS5 ⟨fun j hj => ?_, by omega⟩
        rcases Nat.lt_or_ge j 5 with q | q
        · exact hd9 j (by omega)
        · rw [show p + (j : Int) = p + (i : Int) by omega]; unfold tDg; omega
      · show t_X d 51 63 lv [oI 0] g P
        refine tz_eq vnu_63 (by decide) ⟨by omega, by omega⟩ (fun c6 => ?_) (fun c6 => absurd c6 (by omega))
        show t_X d 51 72 lv [] g P
        refine t_0 vnu_72 rfl (ld_a l0) ?_
        refine t_0 vnu_73 rfl (pq_ro leo_154 rfl (lc_c hB hK hS)) ?_
        show t_X d 51 76 lv [pvR K] g P
        refine t_0 vnu_76 rfl rfl ?_
        refine t_0 vnu_77 rfl (ld_i l1) ?_
        refine t_3 vnu_78 rfl (ar := ([pvR K, oI 0, oI (lV (tH B n) p i)], [])) (pcal_w (as := [oI (lV (tH B n) p i), oI 0]) rfl rfl rfl (lk_e hK)) ⟨by omega, Nat.le_of_ble_eq_true rfl, Nat.le_of_ble_eq_true rfl, rfl⟩ ?_
        refine vem_run hK hB hS ⟨by omega, by omega⟩ ⟨by omega, by omega⟩ (fun _ g7 hS7 => ?_) (fun t7 => absurd t7 (by omega)) rfl rfl rfl
        replace hS7 : lS K g0 g7 (p + (i : Int)) 0 (k + 1) c (updI o k.toNat 0) (updI v k.toNat (lV (tH B n) p i)) le st co en := hS7
        show t_X d 51 81 lv [oI (k)] g7 P
        refine t_0 vnu_81 rfl rfl ?_
        refine t_5 vnu_82 rfl rfl ?_
        exact hO _ _ _ hS7 ⟨i, by omega, by omega, hd9, by unfold tDg; omega, rfl, rfl⟩
theorem vnu_run {d : Nat} {K : Nat} (hK : lK K) (hd : 1 ≤ d) {g0 g : pH} {B : tC} {n : Int} (hB : lB K g0 B n) {p k c : Int} {o v le st co en : tC} (hS : lS K g0 g p 0 k c o v le st co en) (hkp : 0 ≤ p ∧ 0 ≤ k ∧ k ≤ p ∧ p < n) (hd0 : tDg (tH B n p)) {P : Option pv × pH → Prop} (hF : ∀ (g1 : pH) (f q : Int), lS K g0 g1 q f k c o v le st co en → lNf (tH B n) p f → P (none, g1)) (hO : ∀ (g1 : pH) (x q : Int), lS K g0 g1 q 0 (k + 1) c (updI o k.toNat 0) (updI v k.toNat x) le st co en → lNu (tH B n) p x q → P (none, g1)) {lv : List (Nat × pv)} (l0 : px_lg lv 0 = some (pvR 154)) : t_X d 51 0 lv [] g P := by
  obtain ⟨hn, hp, hf, hk, hc, hH⟩ := lc_m hB hK hS
  refine t_0 vnu_0 rfl rfl ?_
  refine t_2 vnu_1 rfl (w := (px_s1 lv 1 (oI 0), [])) rfl ?_
  replace l0 : px_lg (px_s1 lv 1 (oI 0)) 0 = some (pvR 154) := s1_ne (by decide) (fun _ => rfl) l0
  have l1 : px_lg (px_s1 lv 1 (oI 0)) 1 = some (oI 0) := s1_eq
  generalize px_s1 lv 1 (oI 0) = lv1 at l0 l1 ⊢
  show t_X d 51 2 lv1 [] g P
  refine t_0 vnu_2 rfl rfl ?_
  refine t_2 vnu_3 rfl (w := (px_s1 lv1 2 (oI 0), [])) rfl ?_
  replace l0 : px_lg (px_s1 lv1 2 (oI 0)) 0 = some (pvR 154) := s1_ne (by decide) (fun _ => rfl) l0
  replace l1 : px_lg (px_s1 lv1 2 (oI 0)) 1 = some (oI 0) := s1_ne (by decide) (fun _ => rfl) l1
  have l2 : px_lg (px_s1 lv1 2 (oI 0)) 2 = some (oI 0) := s1_eq
  generalize px_s1 lv1 2 (oI 0) = lv2 at l0 l1 l2 ⊢
  show t_X d 51 4 lv2 [] g P
  exact vnu_l hK hd hB hkp hd0 hF hO 5 0 _ _ (by omega) (by omega) (by rw [show p + ((0 : Nat) : Int) = p by omega]; exact hS) (fun j hj => absurd hj (Nat.not_lt_zero _)) l0 l1 l2
