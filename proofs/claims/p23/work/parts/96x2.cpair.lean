/-! the tie: rows of twos: the class (printed by wip/e2/t15.py) -/
theorem qccl_0 : xe_look (xc 111) 0 = some (.aload_n 0, 1, 0, 0, 0) := by decide +kernel
theorem qccl_1 : xe_look (xc 111) 1 = some (.getfield 16, 3, 11, 2, 983) := by decide +kernel
theorem qccl_4 : xe_look (xc 111) 4 = some (.iload_n 1, 1, 0, 0, 0) := by decide +kernel
theorem qccl_5 : xe_look (xc 111) 5 = some (.invokevirtual 107, 3, 0, 84, 984) := by decide +kernel
theorem qccl_8 : xe_look (xc 111) 8 = some (.ifnull 19, 3, 0, 0, 0) := by decide +kernel
theorem qccl_11 : xe_look (xc 111) 11 = some (.aload_n 0, 1, 0, 0, 0) := by decide +kernel
theorem qccl_12 : xe_look (xc 111) 12 = some (.getfield 16, 3, 11, 2, 983) := by decide +kernel
theorem qccl_15 : xe_look (xc 111) 15 = some (.iload_n 2, 1, 0, 0, 0) := by decide +kernel
theorem qccl_16 : xe_look (xc 111) 16 = some (.invokevirtual 107, 3, 0, 84, 984) := by decide +kernel
theorem qccl_19 : xe_look (xc 111) 19 = some (.ifnull 8, 3, 0, 0, 0) := by decide +kernel
theorem qccl_22 : xe_look (xc 111) 22 = some (.iload_n 1, 1, 0, 0, 0) := by decide +kernel
theorem qccl_23 : xe_look (xc 111) 23 = some (.iload_n 2, 1, 0, 0, 0) := by decide +kernel
theorem qccl_24 : xe_look (xc 111) 24 = some (.if_icmp .ne 5, 3, 0, 0, 0) := by decide +kernel
theorem qccl_27 : xe_look (xc 111) 27 = some (.iconst (-1), 1, 0, 0, 0) := by decide +kernel
theorem qccl_28 : xe_look (xc 111) 28 = some (.ireturn, 1, 0, 0, 0) := by decide +kernel
theorem qccl_29 : xe_look (xc 111) 29 = some (.aload_n 0, 1, 0, 0, 0) := by decide +kernel
theorem qccl_30 : xe_look (xc 111) 30 = some (.getfield 16, 3, 11, 2, 983) := by decide +kernel
theorem qccl_33 : xe_look (xc 111) 33 = some (.getfield 128, 3, 8, 5, 988) := by decide +kernel
theorem qccl_36 : xe_look (xc 111) 36 = some (.iload_n 1, 1, 0, 0, 0) := by decide +kernel
theorem qccl_37 : xe_look (xc 111) 37 = some (.iload_n 2, 1, 0, 0, 0) := by decide +kernel
theorem qccl_38 : xe_look (xc 111) 38 = some (.invokevirtual 335, 3, 0, 69, 989) := by decide +kernel
theorem qccl_41 : xe_look (xc 111) 41 = some (.ireturn, 1, 0, 0, 0) := by decide +kernel
theorem qcli_0 : xe_look (xc 133) 0 = some (.aload_n 0, 1, 0, 0, 0) := by decide +kernel
theorem qcli_1 : xe_look (xc 133) 1 = some (.getfield 16, 3, 11, 2, 983) := by decide +kernel
theorem qcli_4 : xe_look (xc 133) 4 = some (.iload_n 1, 1, 0, 0, 0) := by decide +kernel
theorem qcli_5 : xe_look (xc 133) 5 = some (.invokevirtual 107, 3, 0, 84, 984) := by decide +kernel
theorem qcli_8 : xe_look (xc 133) 8 = some (.ifnull 19, 3, 0, 0, 0) := by decide +kernel
theorem qcli_11 : xe_look (xc 133) 11 = some (.aload_n 0, 1, 0, 0, 0) := by decide +kernel
theorem qcli_12 : xe_look (xc 133) 12 = some (.getfield 16, 3, 11, 2, 983) := by decide +kernel
theorem qcli_15 : xe_look (xc 133) 15 = some (.iload_n 2, 1, 0, 0, 0) := by decide +kernel
theorem qcli_16 : xe_look (xc 133) 16 = some (.invokevirtual 107, 3, 0, 84, 984) := by decide +kernel
theorem qcli_19 : xe_look (xc 133) 19 = some (.ifnull 8, 3, 0, 0, 0) := by decide +kernel
theorem qcli_22 : xe_look (xc 133) 22 = some (.iload_n 1, 1, 0, 0, 0) := by decide +kernel
theorem qcli_23 : xe_look (xc 133) 23 = some (.iload_n 2, 1, 0, 0, 0) := by decide +kernel
theorem qcli_24 : xe_look (xc 133) 24 = some (.if_icmp .ne 5, 3, 0, 0, 0) := by decide +kernel
theorem qcli_27 : xe_look (xc 133) 27 = some (.iconst (-1), 1, 0, 0, 0) := by decide +kernel
theorem qcli_28 : xe_look (xc 133) 28 = some (.ireturn, 1, 0, 0, 0) := by decide +kernel
theorem qcli_29 : xe_look (xc 133) 29 = some (.aload_n 0, 1, 0, 0, 0) := by decide +kernel
theorem qcli_30 : xe_look (xc 133) 30 = some (.getfield 16, 3, 11, 2, 983) := by decide +kernel
theorem qcli_33 : xe_look (xc 133) 33 = some (.getfield 137, 3, 8, 6, 1009) := by decide +kernel
theorem qcli_36 : xe_look (xc 133) 36 = some (.iload_n 1, 1, 0, 0, 0) := by decide +kernel
theorem qcli_37 : xe_look (xc 133) 37 = some (.iload_n 2, 1, 0, 0, 0) := by decide +kernel
theorem qcli_38 : xe_look (xc 133) 38 = some (.invokevirtual 335, 3, 0, 69, 989) := by decide +kernel
theorem qcli_41 : xe_look (xc 133) 41 = some (.ireturn, 1, 0, 0, 0) := by decide +kernel
theorem qk144_0 : xe_look (xc 70) 0 = some (.aload_n 0, 1, 0, 0, 0) := by decide +kernel
theorem qk144_1 : xe_look (xc 70) 1 = some (.aload_n 1, 1, 0, 0, 0) := by decide +kernel
theorem qk144_2 : xe_look (xc 70) 2 = some (.getfield 24, 3, 6, 2, 903) := by decide +kernel
theorem qk144_5 : xe_look (xc 70) 5 = some (.aload_n 0, 1, 0, 0, 0) := by decide +kernel
theorem qk144_6 : xe_look (xc 70) 6 = some (.getfield 15, 3, 6, 0, 904) := by decide +kernel
theorem qk144_9 : xe_look (xc 70) 9 = some (.arraylength, 1, 0, 0, 0) := by decide +kernel
theorem qk144_10 : xe_look (xc 70) 10 = some (.invokestatic 28, 3, 3, 0, 906) := by decide +kernel
theorem qk144_13 : xe_look (xc 70) 13 = some (.putfield 24, 3, 6, 2, 903) := by decide +kernel
theorem qk144_16 : xe_look (xc 70) 16 = some (.aload_n 1, 1, 0, 0, 0) := by decide +kernel
theorem qk144_17 : xe_look (xc 70) 17 = some (.getfield 15, 3, 6, 0, 904) := by decide +kernel
theorem qk144_20 : xe_look (xc 70) 20 = some (.iconst 0, 1, 0, 0, 0) := by decide +kernel
theorem qk144_21 : xe_look (xc 70) 21 = some (.aload_n 0, 1, 0, 0, 0) := by decide +kernel
theorem qk144_22 : xe_look (xc 70) 22 = some (.getfield 15, 3, 6, 0, 904) := by decide +kernel
theorem qk144_25 : xe_look (xc 70) 25 = some (.iconst 0, 1, 0, 0, 0) := by decide +kernel
theorem qk144_26 : xe_look (xc 70) 26 = some (.aload_n 0, 1, 0, 0, 0) := by decide +kernel
theorem qk144_27 : xe_look (xc 70) 27 = some (.getfield 24, 3, 6, 2, 903) := by decide +kernel
theorem qk144_30 : xe_look (xc 70) 30 = some (.invokestatic 31, 3, 5, 0, 907) := by decide +kernel
theorem qk144_33 : xe_look (xc 70) 33 = some (.aload_n 1, 1, 0, 0, 0) := by decide +kernel
theorem qk144_34 : xe_look (xc 70) 34 = some (.getfield 21, 3, 6, 1, 905) := by decide +kernel
theorem qk144_37 : xe_look (xc 70) 37 = some (.iconst 0, 1, 0, 0, 0) := by decide +kernel
theorem qk144_38 : xe_look (xc 70) 38 = some (.aload_n 0, 1, 0, 0, 0) := by decide +kernel
theorem qk144_39 : xe_look (xc 70) 39 = some (.getfield 21, 3, 6, 1, 905) := by decide +kernel
theorem qk144_42 : xe_look (xc 70) 42 = some (.iconst 0, 1, 0, 0, 0) := by decide +kernel
theorem qk144_43 : xe_look (xc 70) 43 = some (.aload_n 0, 1, 0, 0, 0) := by decide +kernel
theorem qk144_44 : xe_look (xc 70) 44 = some (.getfield 24, 3, 6, 2, 903) := by decide +kernel
theorem qk144_47 : xe_look (xc 70) 47 = some (.invokestatic 31, 3, 5, 0, 907) := by decide +kernel
theorem qk144_50 : xe_look (xc 70) 50 = some (.return_, 1, 0, 0, 0) := by decide +kernel
theorem qk147_0 : xe_look (xc 70) 0 = some (.aload_n 0, 1, 0, 0, 0) := by decide +kernel
theorem qk147_1 : xe_look (xc 70) 1 = some (.aload_n 1, 1, 0, 0, 0) := by decide +kernel
theorem qk147_2 : xe_look (xc 70) 2 = some (.getfield 24, 3, 6, 2, 903) := by decide +kernel
theorem qk147_5 : xe_look (xc 70) 5 = some (.aload_n 0, 1, 0, 0, 0) := by decide +kernel
theorem qk147_6 : xe_look (xc 70) 6 = some (.getfield 15, 3, 6, 0, 904) := by decide +kernel
theorem qk147_9 : xe_look (xc 70) 9 = some (.arraylength, 1, 0, 0, 0) := by decide +kernel
theorem qk147_10 : xe_look (xc 70) 10 = some (.invokestatic 28, 3, 3, 0, 906) := by decide +kernel
theorem qk147_13 : xe_look (xc 70) 13 = some (.putfield 24, 3, 6, 2, 903) := by decide +kernel
theorem qk147_16 : xe_look (xc 70) 16 = some (.aload_n 1, 1, 0, 0, 0) := by decide +kernel
theorem qk147_17 : xe_look (xc 70) 17 = some (.getfield 15, 3, 6, 0, 904) := by decide +kernel
theorem qk147_20 : xe_look (xc 70) 20 = some (.iconst 0, 1, 0, 0, 0) := by decide +kernel
theorem qk147_21 : xe_look (xc 70) 21 = some (.aload_n 0, 1, 0, 0, 0) := by decide +kernel
theorem qk147_22 : xe_look (xc 70) 22 = some (.getfield 15, 3, 6, 0, 904) := by decide +kernel
theorem qk147_25 : xe_look (xc 70) 25 = some (.iconst 0, 1, 0, 0, 0) := by decide +kernel
theorem qk147_26 : xe_look (xc 70) 26 = some (.aload_n 0, 1, 0, 0, 0) := by decide +kernel
theorem qk147_27 : xe_look (xc 70) 27 = some (.getfield 24, 3, 6, 2, 903) := by decide +kernel
theorem qk147_30 : xe_look (xc 70) 30 = some (.invokestatic 31, 3, 5, 0, 907) := by decide +kernel
theorem qk147_33 : xe_look (xc 70) 33 = some (.aload_n 1, 1, 0, 0, 0) := by decide +kernel
theorem qk147_34 : xe_look (xc 70) 34 = some (.getfield 21, 3, 6, 1, 905) := by decide +kernel
theorem qk147_37 : xe_look (xc 70) 37 = some (.iconst 0, 1, 0, 0, 0) := by decide +kernel
theorem qk147_38 : xe_look (xc 70) 38 = some (.aload_n 0, 1, 0, 0, 0) := by decide +kernel
theorem qk147_39 : xe_look (xc 70) 39 = some (.getfield 21, 3, 6, 1, 905) := by decide +kernel
theorem qk147_42 : xe_look (xc 70) 42 = some (.iconst 0, 1, 0, 0, 0) := by decide +kernel
theorem qk147_43 : xe_look (xc 70) 43 = some (.aload_n 0, 1, 0, 0, 0) := by decide +kernel
theorem qk147_44 : xe_look (xc 70) 44 = some (.getfield 24, 3, 6, 2, 903) := by decide +kernel
theorem qk147_47 : xe_look (xc 70) 47 = some (.invokestatic 31, 3, 5, 0, 907) := by decide +kernel
theorem qk147_50 : xe_look (xc 70) 50 = some (.return_, 1, 0, 0, 0) := by decide +kernel
theorem qk70_0 : xe_look (xc 70) 0 = some (.aload_n 0, 1, 0, 0, 0) := by decide +kernel
theorem qk70_1 : xe_look (xc 70) 1 = some (.aload_n 1, 1, 0, 0, 0) := by decide +kernel
theorem qk70_2 : xe_look (xc 70) 2 = some (.getfield 24, 3, 6, 2, 903) := by decide +kernel
theorem qk70_5 : xe_look (xc 70) 5 = some (.aload_n 0, 1, 0, 0, 0) := by decide +kernel
theorem qk70_6 : xe_look (xc 70) 6 = some (.getfield 15, 3, 6, 0, 904) := by decide +kernel
theorem qk70_9 : xe_look (xc 70) 9 = some (.arraylength, 1, 0, 0, 0) := by decide +kernel
theorem qk70_10 : xe_look (xc 70) 10 = some (.invokestatic 28, 3, 3, 0, 906) := by decide +kernel
theorem qk70_13 : xe_look (xc 70) 13 = some (.putfield 24, 3, 6, 2, 903) := by decide +kernel
theorem qk70_16 : xe_look (xc 70) 16 = some (.aload_n 1, 1, 0, 0, 0) := by decide +kernel
theorem qk70_17 : xe_look (xc 70) 17 = some (.getfield 15, 3, 6, 0, 904) := by decide +kernel
theorem qk70_20 : xe_look (xc 70) 20 = some (.iconst 0, 1, 0, 0, 0) := by decide +kernel
theorem qk70_21 : xe_look (xc 70) 21 = some (.aload_n 0, 1, 0, 0, 0) := by decide +kernel
theorem qk70_22 : xe_look (xc 70) 22 = some (.getfield 15, 3, 6, 0, 904) := by decide +kernel
theorem qk70_25 : xe_look (xc 70) 25 = some (.iconst 0, 1, 0, 0, 0) := by decide +kernel
theorem qk70_26 : xe_look (xc 70) 26 = some (.aload_n 0, 1, 0, 0, 0) := by decide +kernel
theorem qk70_27 : xe_look (xc 70) 27 = some (.getfield 24, 3, 6, 2, 903) := by decide +kernel
theorem qk70_30 : xe_look (xc 70) 30 = some (.invokestatic 31, 3, 5, 0, 907) := by decide +kernel
theorem qk70_33 : xe_look (xc 70) 33 = some (.aload_n 1, 1, 0, 0, 0) := by decide +kernel
theorem qk70_34 : xe_look (xc 70) 34 = some (.getfield 21, 3, 6, 1, 905) := by decide +kernel
theorem qk70_37 : xe_look (xc 70) 37 = some (.iconst 0, 1, 0, 0, 0) := by decide +kernel
theorem qk70_38 : xe_look (xc 70) 38 = some (.aload_n 0, 1, 0, 0, 0) := by decide +kernel
theorem qk70_39 : xe_look (xc 70) 39 = some (.getfield 21, 3, 6, 1, 905) := by decide +kernel
theorem qk70_42 : xe_look (xc 70) 42 = some (.iconst 0, 1, 0, 0, 0) := by decide +kernel
theorem qk70_43 : xe_look (xc 70) 43 = some (.aload_n 0, 1, 0, 0, 0) := by decide +kernel
theorem qk70_44 : xe_look (xc 70) 44 = some (.getfield 24, 3, 6, 2, 903) := by decide +kernel
theorem qk70_47 : xe_look (xc 70) 47 = some (.invokestatic 31, 3, 5, 0, 907) := by decide +kernel
theorem qk70_50 : xe_look (xc 70) 50 = some (.return_, 1, 0, 0, 0) := by decide +kernel
theorem qk73_0 : xe_look (xc 70) 0 = some (.aload_n 0, 1, 0, 0, 0) := by decide +kernel
theorem qk73_1 : xe_look (xc 70) 1 = some (.aload_n 1, 1, 0, 0, 0) := by decide +kernel
theorem qk73_2 : xe_look (xc 70) 2 = some (.getfield 24, 3, 6, 2, 903) := by decide +kernel
theorem qk73_5 : xe_look (xc 70) 5 = some (.aload_n 0, 1, 0, 0, 0) := by decide +kernel
theorem qk73_6 : xe_look (xc 70) 6 = some (.getfield 15, 3, 6, 0, 904) := by decide +kernel
theorem qk73_9 : xe_look (xc 70) 9 = some (.arraylength, 1, 0, 0, 0) := by decide +kernel
theorem qk73_10 : xe_look (xc 70) 10 = some (.invokestatic 28, 3, 3, 0, 906) := by decide +kernel
theorem qk73_13 : xe_look (xc 70) 13 = some (.putfield 24, 3, 6, 2, 903) := by decide +kernel
theorem qk73_16 : xe_look (xc 70) 16 = some (.aload_n 1, 1, 0, 0, 0) := by decide +kernel
theorem qk73_17 : xe_look (xc 70) 17 = some (.getfield 15, 3, 6, 0, 904) := by decide +kernel
theorem qk73_20 : xe_look (xc 70) 20 = some (.iconst 0, 1, 0, 0, 0) := by decide +kernel
theorem qk73_21 : xe_look (xc 70) 21 = some (.aload_n 0, 1, 0, 0, 0) := by decide +kernel
theorem qk73_22 : xe_look (xc 70) 22 = some (.getfield 15, 3, 6, 0, 904) := by decide +kernel
theorem qk73_25 : xe_look (xc 70) 25 = some (.iconst 0, 1, 0, 0, 0) := by decide +kernel
theorem qk73_26 : xe_look (xc 70) 26 = some (.aload_n 0, 1, 0, 0, 0) := by decide +kernel
theorem qk73_27 : xe_look (xc 70) 27 = some (.getfield 24, 3, 6, 2, 903) := by decide +kernel
theorem qk73_30 : xe_look (xc 70) 30 = some (.invokestatic 31, 3, 5, 0, 907) := by decide +kernel
theorem qk73_33 : xe_look (xc 70) 33 = some (.aload_n 1, 1, 0, 0, 0) := by decide +kernel
theorem qk73_34 : xe_look (xc 70) 34 = some (.getfield 21, 3, 6, 1, 905) := by decide +kernel
theorem qk73_37 : xe_look (xc 70) 37 = some (.iconst 0, 1, 0, 0, 0) := by decide +kernel
theorem qk73_38 : xe_look (xc 70) 38 = some (.aload_n 0, 1, 0, 0, 0) := by decide +kernel
theorem qk73_39 : xe_look (xc 70) 39 = some (.getfield 21, 3, 6, 1, 905) := by decide +kernel
theorem qk73_42 : xe_look (xc 70) 42 = some (.iconst 0, 1, 0, 0, 0) := by decide +kernel
theorem qk73_43 : xe_look (xc 70) 43 = some (.aload_n 0, 1, 0, 0, 0) := by decide +kernel
theorem qk73_44 : xe_look (xc 70) 44 = some (.getfield 24, 3, 6, 2, 903) := by decide +kernel
theorem qk73_47 : xe_look (xc 70) 47 = some (.invokestatic 31, 3, 5, 0, 907) := by decide +kernel
theorem qk73_50 : xe_look (xc 70) 50 = some (.return_, 1, 0, 0, 0) := by decide +kernel
theorem qxg_0 : xe_look (xc 120) 0 = some (.aload_n 0, 1, 0, 0, 0) := by decide +kernel
theorem qxg_1 : xe_look (xc 120) 1 = some (.getfield 16, 3, 11, 2, 983) := by decide +kernel
theorem qxg_4 : xe_look (xc 120) 4 = some (.iload_n 1, 1, 0, 0, 0) := by decide +kernel
theorem qxg_5 : xe_look (xc 120) 5 = some (.invokevirtual 107, 3, 0, 84, 984) := by decide +kernel
theorem qxg_8 : xe_look (xc 120) 8 = some (.astore_n 2, 1, 0, 0, 0) := by decide +kernel
theorem qxg_9 : xe_look (xc 120) 9 = some (.aload_n 2, 1, 0, 0, 0) := by decide +kernel
theorem qxg_10 : xe_look (xc 120) 10 = some (.ifnonnull 5, 3, 0, 0, 0) := by decide +kernel
theorem qxg_13 : xe_look (xc 120) 13 = some (.iconst 0, 1, 0, 0, 0) := by decide +kernel
theorem qxg_14 : xe_look (xc 120) 14 = some (.ireturn, 1, 0, 0, 0) := by decide +kernel
theorem qxg_15 : xe_look (xc 120) 15 = some (.aload_n 2, 1, 0, 0, 0) := by decide +kernel
theorem qxg_16 : xe_look (xc 120) 16 = some (.iconst 0, 1, 0, 0, 0) := by decide +kernel
theorem qxg_17 : xe_look (xc 120) 17 = some (.putfield 121, 3, 7, 2, 1019) := by decide +kernel
theorem qxg_20 : xe_look (xc 120) 20 = some (.aload_n 2, 1, 0, 0, 0) := by decide +kernel
theorem qxg_21 : xe_look (xc 120) 21 = some (.iconst (-1), 1, 0, 0, 0) := by decide +kernel
theorem qxg_22 : xe_look (xc 120) 22 = some (.putfield 125, 3, 7, 9, 991) := by decide +kernel
theorem qxg_25 : xe_look (xc 120) 25 = some (.aload_n 0, 1, 0, 0, 0) := by decide +kernel
theorem qxg_26 : xe_look (xc 120) 26 = some (.getfield 16, 3, 11, 2, 983) := by decide +kernel
theorem qxg_29 : xe_look (xc 120) 29 = some (.getfield 128, 3, 8, 5, 988) := by decide +kernel
theorem qxg_32 : xe_look (xc 120) 32 = some (.iload_n 1, 1, 0, 0, 0) := by decide +kernel
theorem qxg_33 : xe_look (xc 120) 33 = some (.invokevirtual 132, 3, 0, 71, 1020) := by decide +kernel
theorem qxg_36 : xe_look (xc 120) 36 = some (.aload_n 0, 1, 0, 0, 0) := by decide +kernel
theorem qxg_37 : xe_look (xc 120) 37 = some (.getfield 16, 3, 11, 2, 983) := by decide +kernel
theorem qxg_40 : xe_look (xc 120) 40 = some (.getfield 137, 3, 8, 6, 1009) := by decide +kernel
theorem qxg_43 : xe_look (xc 120) 43 = some (.iload_n 1, 1, 0, 0, 0) := by decide +kernel
theorem qxg_44 : xe_look (xc 120) 44 = some (.invokevirtual 132, 3, 0, 71, 1020) := by decide +kernel
theorem qxg_47 : xe_look (xc 120) 47 = some (.iconst 1, 1, 0, 0, 0) := by decide +kernel
theorem qxg_48 : xe_look (xc 120) 48 = some (.ireturn, 1, 0, 0, 0) := by decide +kernel
theorem er_144 : eL[144]? = some (0, 6) := by decide +kernel
theorem er_147 : eL[147]? = some (0, 6) := by decide +kernel
theorem cg_2_5 : (eG (cn 2 + 5)).2.2 = [71] := by decide +kernel
theorem cr_2_5 {d i : Nat} {lv : List (Nat × pv)} {r : List pv} {g : pH} (hG : g_I eG g) : px_push eL d none (.getfield i) 8 5 lv (pvR 2 :: r) g = some (pvR 70 :: r) := pget er_2 (gI_o (r := 70) hG er_2 (Nat.le_of_ble_eq_true rfl) (y := 5) rfl cg_2_5)
theorem cg_2_6 : (eG (cn 2 + 6)).2.2 = [74] := by decide +kernel
theorem cr_2_6 {d i : Nat} {lv : List (Nat × pv)} {r : List pv} {g : pH} (hG : g_I eG g) : px_push eL d none (.getfield i) 8 6 lv (pvR 2 :: r) g = some (pvR 73 :: r) := pget er_2 (gI_o (r := 73) hG er_2 (Nat.le_of_ble_eq_true rfl) (y := 6) rfl cg_2_6)
theorem cg_144_0 : (eG (cn 144 + 0)).2.2 = [146] := by decide +kernel
theorem cr_144_0 {d i : Nat} {lv : List (Nat × pv)} {r : List pv} {g : pH} (hG : g_I eG g) : px_push eL d none (.getfield i) 6 0 lv (pvR 144 :: r) g = some (pvR 145 :: r) := pget er_144 (gI_r (r := 145) hG er_144 (Nat.le_of_ble_eq_true rfl) (y := 0) rfl cg_144_0)
theorem cg_144_1 : (eG (cn 144 + 1)).2.2 = [147] := by decide +kernel
theorem cr_144_1 {d i : Nat} {lv : List (Nat × pv)} {r : List pv} {g : pH} (hG : g_I eG g) : px_push eL d none (.getfield i) 6 1 lv (pvR 144 :: r) g = some (pvR 146 :: r) := pget er_144 (gI_r (r := 146) hG er_144 (Nat.le_of_ble_eq_true rfl) (y := 1) rfl cg_144_1)
theorem cg_147_0 : (eG (cn 147 + 0)).2.2 = [149] := by decide +kernel
theorem cr_147_0 {d i : Nat} {lv : List (Nat × pv)} {r : List pv} {g : pH} (hG : g_I eG g) : px_push eL d none (.getfield i) 6 0 lv (pvR 147 :: r) g = some (pvR 148 :: r) := pget er_147 (gI_r (r := 148) hG er_147 (Nat.le_of_ble_eq_true rfl) (y := 0) rfl cg_147_0)
theorem cg_147_1 : (eG (cn 147 + 1)).2.2 = [150] := by decide +kernel
theorem cr_147_1 {d i : Nat} {lv : List (Nat × pv)} {r : List pv} {g : pH} (hG : g_I eG g) : px_push eL d none (.getfield i) 6 1 lv (pvR 147 :: r) g = some (pvR 149 :: r) := pget er_147 (gI_r (r := 149) hG er_147 (Nat.le_of_ble_eq_true rfl) (y := 1) rfl cg_147_1)
theorem gx_144_2 : eG (cn 144 + 2) = (0, 24, []) := by decide +kernel
theorem gx_147_2 : eG (cn 147 + 2) = (0, 12, []) := by decide +kernel
theorem cb_144_2 {g : pH} (hG : g_I eG g) : 0 ≤ cF g 144 2 ∧ cF g 144 2 ≤ 24 := cb_i hG er_144 (Nat.le_of_ble_eq_true rfl) rfl gx_144_2
theorem cb_147_2 {g : pH} (hG : g_I eG g) : 0 ≤ cF g 147 2 ∧ cF g 147 2 ≤ 12 := cb_i hG er_147 (Nat.le_of_ble_eq_true rfl) rfl gx_147_2
theorem Wclc : kk_40.2.2.2.1.testBit (cn 71) = true ∧ kk_40.2.2.2.1.testBit (cn 72) = true ∧ kk_40.2.2.2.1.testBit (cn 70 + 2) = true ∧ kk_40.2.2.2.1 &&& eDX = 0 := by decide +kernel
set_option maxHeartbeats 2000000 in
theorem cc_cl {d : Nat} (hd : 2 ≤ d) {g : pH} (hG : g_I eG g) (hS : rS g) {i j : Int} (hi : -2147483648 ≤ i ∧ i ≤ 2147483647) (hj : -2147483648 ≤ j ∧ j ≤ 2147483647) {P : Option pv × pH → Prop} (hA : toC g i ∧ toC g j ∧ i ≠ j ∧ cF g 70 2 < 24 → ∀ g1 : pH, J_ kk_40.2.2.2.1 g g1 → cF g1 70 2 = cF g 70 2 + 1 → fA g1 71 = updI (fA g 71) (cF g 70 2).toNat i → fA g1 72 = updI (fA g 72) (cF g 70 2).toNat j → P (some (oI (cF g 70 2 + 1)), g1)) (hR : ¬ (toC g i ∧ toC g j ∧ i ≠ j ∧ cF g 70 2 < 24) → P (some (oI (-1)), g)) {lv : List (Nat × pv)} (l0 : px_lg lv 0 = some (pvR 0)) (l1 : px_lg lv 1 = some (oI i)) (l2 : px_lg lv 2 = some (oI j)) : t_X d 111 0 lv [] g P := by
  have hJ : J_ kk_40.2.2.2.1 g g := J_rf hG
  refine t_0 qccl_0 rfl (ld_a l0) ?_
  refine t_0 qccl_1 rfl (cr_0_2 hJ.1) ?_
  refine t_0 qccl_4 rfl (ld_i l1) ?_
  refine t_3 qccl_5 rfl (ar := ([pvR 2, oI (i)], [])) (pcal_v1 rfl rfl er_2) ⟨by omega, Nat.le_of_ble_eq_true rfl, Nat.le_of_ble_eq_true rfl, rfl⟩ ?_
  refine td_run (by omega) hJ.1 hS (by omega) (fun m1 hm1 e1 c1 => ?_) (fun c1 => ?_) rfl rfl
  · show t_X d 111 8 lv [pvR (4 + 2 * m1)] g P
    refine t_1 qccl_8 rfl (pn_nf (pc := 8) ) ?_
    show t_X d 111 11 lv [] g P
    refine t_0 qccl_11 rfl (ld_a l0) ?_
    refine t_0 qccl_12 rfl (cr_0_2 hJ.1) ?_
    refine t_0 qccl_15 rfl (ld_i l2) ?_
    refine t_3 qccl_16 rfl (ar := ([pvR 2, oI (j)], [])) (pcal_v1 rfl rfl er_2) ⟨by omega, Nat.le_of_ble_eq_true rfl, Nat.le_of_ble_eq_true rfl, rfl⟩ ?_
    refine td_run (by omega) hJ.1 hS (by omega) (fun m2 hm2 e2 c2 => ?_) (fun c2 => ?_) rfl rfl
    · show t_X d 111 19 lv [pvR (4 + 2 * m2)] g P
      refine t_1 qccl_19 rfl (pn_nf (pc := 19) ) ?_
      show t_X d 111 22 lv [] g P
      refine t_0 qccl_22 rfl (ld_i l1) ?_
      refine t_0 qccl_23 rfl (ld_i l2) ?_
      refine tb_ne qccl_24 (by decide) ⟨by omega, by omega⟩ ⟨by omega, by omega⟩ (fun c3 => ?_) (fun c3 => ?_)
      · show t_X d 111 29 lv [] g P
        refine t_0 qccl_29 rfl (ld_a l0) ?_
        refine t_0 qccl_30 rfl (cr_0_2 hJ.1) ?_
        refine t_0 qccl_33 rfl (cr_2_5 hJ.1) ?_
        refine t_0 qccl_36 rfl (ld_i l1) ?_
        refine t_0 qccl_37 rfl (ld_i l2) ?_
        refine t_3 qccl_38 rfl (ar := ([pvR 70, oI (i), oI (j)], [])) (pcal_v2 rfl rfl er_70) ⟨by omega, Nat.le_of_ble_eq_true rfl, Nat.le_of_ble_eq_true rfl, rfl⟩ ?_
        refine ad_cl hJ Wclc.1 Wclc.2.1 Wclc.2.2.1 (by omega) (by omega) (fun z9 => ?_) (fun g9 J9 z9 s9 p9 q9 => ?_) rfl rfl rfl
        · show t_X d 111 41 lv [oI (-1)] g P
          refine t_5 qccl_41 rfl rfl ?_
          exact hR (fun z => absurd z.2.2.2 (by omega))
        · show t_X d 111 41 lv [oI (cF g 70 2 + 1)] g9 P
          refine t_5 qccl_41 rfl rfl ?_
          exact hA ⟨⟨m1, hm1, e1, c1⟩, ⟨m2, hm2, e2, c2⟩, by omega, z9⟩ g9 J9 s9 p9 q9
      · show t_X d 111 27 lv [] g P
        refine t_0 qccl_27 rfl rfl ?_
        refine t_5 qccl_28 rfl rfl ?_
        exact hR (fun z => absurd z.2.2.1 (by omega))
    · show t_X d 111 19 lv [.inr (.inr none)] g P
      refine t_1 qccl_19 rfl (pn_nt (pc := 19) (by decide)) ?_
      show t_X d 111 27 lv [] g P
      refine t_0 qccl_27 rfl rfl ?_
      refine t_5 qccl_28 rfl rfl ?_
      exact hR (fun z => c2 z.2.1)
  · show t_X d 111 8 lv [.inr (.inr none)] g P
    refine t_1 qccl_8 rfl (pn_nt (pc := 8) (by decide)) ?_
    show t_X d 111 27 lv [] g P
    refine t_0 qccl_27 rfl rfl ?_
    refine t_5 qccl_28 rfl rfl ?_
    exact hR (fun z => c1 z.1)
theorem Wlic : kk_46.2.2.2.1.testBit (cn 74) = true ∧ kk_46.2.2.2.1.testBit (cn 75) = true ∧ kk_46.2.2.2.1.testBit (cn 73 + 2) = true ∧ kk_46.2.2.2.1 &&& eDX = 0 := by decide +kernel
set_option maxHeartbeats 2000000 in
theorem cc_li {d : Nat} (hd : 2 ≤ d) {g : pH} (hG : g_I eG g) (hS : rS g) {i j : Int} (hi : -2147483648 ≤ i ∧ i ≤ 2147483647) (hj : -2147483648 ≤ j ∧ j ≤ 2147483647) {P : Option pv × pH → Prop} (hA : toC g i ∧ toC g j ∧ i ≠ j ∧ cF g 73 2 < 12 → ∀ g1 : pH, J_ kk_46.2.2.2.1 g g1 → cF g1 73 2 = cF g 73 2 + 1 → fA g1 74 = updI (fA g 74) (cF g 73 2).toNat i → fA g1 75 = updI (fA g 75) (cF g 73 2).toNat j → P (some (oI (cF g 73 2 + 1)), g1)) (hR : ¬ (toC g i ∧ toC g j ∧ i ≠ j ∧ cF g 73 2 < 12) → P (some (oI (-1)), g)) {lv : List (Nat × pv)} (l0 : px_lg lv 0 = some (pvR 0)) (l1 : px_lg lv 1 = some (oI i)) (l2 : px_lg lv 2 = some (oI j)) : t_X d 133 0 lv [] g P := by
  have hJ : J_ kk_46.2.2.2.1 g g := J_rf hG
  refine t_0 qcli_0 rfl (ld_a l0) ?_
  refine t_0 qcli_1 rfl (cr_0_2 hJ.1) ?_
  refine t_0 qcli_4 rfl (ld_i l1) ?_
  refine t_3 qcli_5 rfl (ar := ([pvR 2, oI (i)], [])) (pcal_v1 rfl rfl er_2) ⟨by omega, Nat.le_of_ble_eq_true rfl, Nat.le_of_ble_eq_true rfl, rfl⟩ ?_
  refine td_run (by omega) hJ.1 hS (by omega) (fun m1 hm1 e1 c1 => ?_) (fun c1 => ?_) rfl rfl
  · show t_X d 133 8 lv [pvR (4 + 2 * m1)] g P
    refine t_1 qcli_8 rfl (pn_nf (pc := 8) ) ?_
    show t_X d 133 11 lv [] g P
    refine t_0 qcli_11 rfl (ld_a l0) ?_
    refine t_0 qcli_12 rfl (cr_0_2 hJ.1) ?_
    refine t_0 qcli_15 rfl (ld_i l2) ?_
    refine t_3 qcli_16 rfl (ar := ([pvR 2, oI (j)], [])) (pcal_v1 rfl rfl er_2) ⟨by omega, Nat.le_of_ble_eq_true rfl, Nat.le_of_ble_eq_true rfl, rfl⟩ ?_
    refine td_run (by omega) hJ.1 hS (by omega) (fun m2 hm2 e2 c2 => ?_) (fun c2 => ?_) rfl rfl
    · show t_X d 133 19 lv [pvR (4 + 2 * m2)] g P
      refine t_1 qcli_19 rfl (pn_nf (pc := 19) ) ?_
      show t_X d 133 22 lv [] g P
      refine t_0 qcli_22 rfl (ld_i l1) ?_
      refine t_0 qcli_23 rfl (ld_i l2) ?_
      refine tb_ne qcli_24 (by decide) ⟨by omega, by omega⟩ ⟨by omega, by omega⟩ (fun c3 => ?_) (fun c3 => ?_)
      · show t_X d 133 29 lv [] g P
        refine t_0 qcli_29 rfl (ld_a l0) ?_
        refine t_0 qcli_30 rfl (cr_0_2 hJ.1) ?_
        refine t_0 qcli_33 rfl (cr_2_6 hJ.1) ?_
        refine t_0 qcli_36 rfl (ld_i l1) ?_
        refine t_0 qcli_37 rfl (ld_i l2) ?_
        refine t_3 qcli_38 rfl (ar := ([pvR 73, oI (i), oI (j)], [])) (pcal_v2 rfl rfl er_73) ⟨by omega, Nat.le_of_ble_eq_true rfl, Nat.le_of_ble_eq_true rfl, rfl⟩ ?_
        refine ad_li hJ Wlic.1 Wlic.2.1 Wlic.2.2.1 (by omega) (by omega) (fun z9 => ?_) (fun g9 J9 z9 s9 p9 q9 => ?_) rfl rfl rfl
        · show t_X d 133 41 lv [oI (-1)] g P
          refine t_5 qcli_41 rfl rfl ?_
          exact hR (fun z => absurd z.2.2.2 (by omega))
        · show t_X d 133 41 lv [oI (cF g 73 2 + 1)] g9 P
          refine t_5 qcli_41 rfl rfl ?_
          exact hA ⟨⟨m1, hm1, e1, c1⟩, ⟨m2, hm2, e2, c2⟩, by omega, z9⟩ g9 J9 s9 p9 q9
      · show t_X d 133 27 lv [] g P
        refine t_0 qcli_27 rfl rfl ?_
        refine t_5 qcli_28 rfl rfl ?_
        exact hR (fun z => absurd z.2.2.1 (by omega))
    · show t_X d 133 19 lv [.inr (.inr none)] g P
      refine t_1 qcli_19 rfl (pn_nt (pc := 19) (by decide)) ?_
      show t_X d 133 27 lv [] g P
      refine t_0 qcli_27 rfl rfl ?_
      refine t_5 qcli_28 rfl rfl ?_
      exact hR (fun z => c2 z.2.1)
  · show t_X d 133 8 lv [.inr (.inr none)] g P
    refine t_1 qcli_8 rfl (pn_nt (pc := 8) (by decide)) ?_
    show t_X d 133 27 lv [] g P
    refine t_0 qcli_27 rfl rfl ?_
    refine t_5 qcli_28 rfl rfl ?_
    exact hR (fun z => c1 z.1)
theorem gs_cor {m : Nat} (h : m < 32) : eG (cn (4 + 2 * m) + 9) = (-1, 3, []) := by
  have : ∀ m, m < 32 → eG (cn (4 + 2 * m) + 9) = (-1, 3, []) := by decide +kernel
  exact this m h
theorem WGb : ∀ m, m < 32 → kk_8.2.2.2.1.testBit (cn (4 + 2 * m) + 2) = true ∧ kk_8.2.2.2.1.testBit (cn (4 + 2 * m) + 9) = true := by decide +kernel
def Wdcl : Nat := 2 ^ (cn 70 + 2) + 2 ^ cn 71 + 2 ^ cn 72
def Wdli : Nat := 2 ^ (cn 73 + 2) + 2 ^ cn 74 + 2 ^ cn 75
theorem Wdcl_1 : Wdcl.testBit (cn 71) = true ∧ Wdcl.testBit (cn 72) = true ∧ Wdcl.testBit (cn 70 + 2) = true ∧ Wdcl &&& kk_8.2.2.2.1 = Wdcl ∧ Wdcl.testBit (cn 74) = false ∧ Wdcl.testBit (cn 75) = false ∧ Wdcl.testBit (cn 73 + 2) = false := by decide +kernel
theorem Wdli_1 : Wdli.testBit (cn 74) = true ∧ Wdli.testBit (cn 75) = true ∧ Wdli.testBit (cn 73 + 2) = true ∧ Wdli &&& kk_8.2.2.2.1 = Wdli ∧ Wdli.testBit (cn 71) = false ∧ Wdli.testBit (cn 72) = false ∧ Wdli.testBit (cn 70 + 2) = false := by decide +kernel
/-- the rows of twos behind gone -/
def dwR (i : Int) (k a b : Nat) (g g1 : pH) : Prop := cF g1 k 2 = ((dw i (fA g a) (fA g b) (cF g k 2).toNat).1 : Int) ∧ fA g1 a = (dw i (fA g a) (fA g b) (cF g k 2).toNat).2.1 ∧ fA g1 b = (dw i (fA g a) (fA g b) (cF g k 2).toNat).2.2
theorem dwR_e {i : Int} {k a b : Nat} {g g0 g1 g2 : pH} (h : dwR i k a b g0 g1) (h1 : cF g0 k 2 = cF g k 2) (h2 : fA g0 a = fA g a) (h3 : fA g0 b = fA g b) (h4 : cF g2 k 2 = cF g1 k 2) (h5 : fA g2 a = fA g1 a) (h6 : fA g2 b = fA g1 b) : dwR i k a b g g2 := by
  unfold dwR at h ⊢
  rw [h4, h5, h6, ← h1, ← h2, ← h3]
  exact h
set_option maxHeartbeats 4000000 in
theorem cg9_run {d : Nat} (hd : 4 ≤ d) {g : pH} (hG : g_I eG g) (hS : rS g) {i : Int} (hi : -2147483648 ≤ i ∧ i ≤ 2147483647) {P : Option pv × pH → Prop} (hA : toC g i → ∀ g1 : pH, J_ kk_8.2.2.2.1 g g1 → dwR i 70 71 72 g g1 → dwR i 73 74 75 g g1 → P (some (oI 1), g1)) (hR : ¬ toC g i → P (some (oI 0), g)) {lv : List (Nat × pv)} (l0 : px_lg lv 0 = some (pvR 0)) (l1 : px_lg lv 1 = some (oI i)) : t_X d 120 0 lv [] g P := by
  have hJ : J_ kk_8.2.2.2.1 g g := J_rf hG
  refine t_0 qxg_0 rfl (ld_a l0) ?_
  refine t_0 qxg_1 rfl (cr_0_2 hJ.1) ?_
  refine t_0 qxg_4 rfl (ld_i l1) ?_
  refine t_3 qxg_5 rfl (ar := ([pvR 2, oI (i)], [])) (pcal_v1 rfl rfl er_2) ⟨by omega, Nat.le_of_ble_eq_true rfl, Nat.le_of_ble_eq_true rfl, rfl⟩ ?_
  refine td_run (by omega) hJ.1 hS (by omega) (fun m hm e1 c0 => ?_) (fun c0 => ?_) rfl rfl
  · show t_X d 120 8 lv [pvR (4 + 2 * m)] g P
    refine t_2 qxg_8 rfl (w := (px_s1 lv 2 (pvR (4 + 2 * m)), [])) rfl ?_
    replace l0 : px_lg (px_s1 lv 2 (pvR (4 + 2 * m))) 0 = some (pvR 0) := s1_ne (by decide) (fun _ => rfl) l0
    replace l1 : px_lg (px_s1 lv 2 (pvR (4 + 2 * m))) 1 = some (oI (i)) := s1_ne (by decide) (fun _ => rfl) l1
    have l2 : px_lg (px_s1 lv 2 (pvR (4 + 2 * m))) 2 = some (pvR (4 + 2 * m)) := s1_eq
    generalize px_s1 lv 2 (pvR (4 + 2 * m)) = lv1 at l0 l1 l2 ⊢
    show t_X d 120 9 lv1 [] g P
    refine t_0 qxg_9 rfl (ld_a l2) ?_
    refine t_1 qxg_10 rfl (pn_ot (pc := 10) (by decide)) ?_
    show t_X d 120 15 lv1 [] g P
    refine t_0 qxg_15 rfl (ld_a l2) ?_
    refine t_0 qxg_16 rfl rfl ?_
    refine tw_z qxg_17 (el_s4 hm) rfl hJ (WGb m hm).1 (gs_told hm).1 (by decide) ⟨by omega, by omega⟩ (by omega) (fun g2 hJ2 e2 => ?_)
    have u2_71 : fA g2 71 = fA g 71 := by rw [e2]; rfl
    have u2_72 : fA g2 72 = fA g 72 := by rw [e2]; rfl
    have u2_74 : fA g2 74 = fA g 74 := by rw [e2]; rfl
    have u2_75 : fA g2 75 = fA g 75 := by rw [e2]; rfl
    have v2_70 : cF g2 70 2 = cF g 70 2 := by rw [e2]; exact pc_ne (by omega)
    have v2_73 : cF g2 73 2 = cF g 73 2 := by rw [e2]; exact pc_ne (by omega)
    show t_X d 120 20 lv1 [] g2 P
    refine t_0 qxg_20 rfl (ld_a l2) ?_
    refine t_0 qxg_21 rfl rfl ?_
    refine tw_c qxg_22 (el_s4 hm) rfl hJ2 (WGb m hm).2 (gs_cor hm) (by decide) ⟨by omega, by omega⟩ (fun g3 hJ3 e3 => ?_)
    have u3_71 : fA g3 71 = fA g2 71 := by rw [e3]; rfl
    have u3_72 : fA g3 72 = fA g2 72 := by rw [e3]; rfl
    have u3_74 : fA g3 74 = fA g2 74 := by rw [e3]; rfl
    have u3_75 : fA g3 75 = fA g2 75 := by rw [e3]; rfl
    have v3_70 : cF g3 70 2 = cF g2 70 2 := by rw [e3]; exact pc_ne (by omega)
    have v3_73 : cF g3 73 2 = cF g2 73 2 := by rw [e3]; exact pc_ne (by omega)
    show t_X d 120 25 lv1 [] g3 P
    refine t_0 qxg_25 rfl (ld_a l0) ?_
    refine t_0 qxg_26 rfl (cr_0_2 hJ3.1) ?_
    refine t_0 qxg_29 rfl (cr_2_5 hJ3.1) ?_
    refine t_0 qxg_32 rfl (ld_i l1) ?_
    refine t_3 qxg_33 rfl (ar := ([pvR 70, oI (i)], [])) (pcal_v1 rfl rfl er_70) ⟨by omega, Nat.le_of_ble_eq_true rfl, Nat.le_of_ble_eq_true rfl, rfl⟩ ?_
    refine dr_cl (W := Wdcl) (J_rf hJ3.1) (by omega) Wdcl_1.1 Wdcl_1.2.1 Wdcl_1.2.2.1 (fun g4 J4 z4 a4 b4 => ?_) rfl rfl
    have hJ4 := J_up Wdcl_1.2.2.2.1 hJ3 J4
    show t_X d 120 36 lv1 [] g4 P
    refine t_0 qxg_36 rfl (ld_a l0) ?_
    refine t_0 qxg_37 rfl (cr_0_2 hJ4.1) ?_
    refine t_0 qxg_40 rfl (cr_2_6 hJ4.1) ?_
    refine t_0 qxg_43 rfl (ld_i l1) ?_
    refine t_3 qxg_44 rfl (ar := ([pvR 73, oI (i)], [])) (pcal_v1 rfl rfl er_73) ⟨by omega, Nat.le_of_ble_eq_true rfl, Nat.le_of_ble_eq_true rfl, rfl⟩ ?_
    refine dr_li (W := Wdli) (J_rf hJ4.1) (by omega) Wdli_1.1 Wdli_1.2.1 Wdli_1.2.2.1 (fun g5 J5 z5 a5 b5 => ?_) rfl rfl
    have hJ5 := J_up Wdli_1.2.2.2.1 hJ4 J5
    show t_X d 120 47 lv1 [] g5 P
    refine t_0 qxg_47 rfl rfl ?_
    refine t_5 qxg_48 rfl rfl ?_
    have D1 : dwR i 70 71 72 g3 g4 := ⟨z4, a4, b4⟩
    have D2 : dwR i 73 74 75 g4 g5 := ⟨z5, a5, b5⟩
    refine hA ⟨m, hm, e1, c0⟩ g5 hJ5 ?_ ?_
    · exact dwR_e D1 (by rw [v3_70, v2_70]) (by rw [u3_71, u2_71]) (by rw [u3_72, u2_72]) (cF_M J5.2 Wdli_1.2.2.2.2.2.2) (fA_M J5.2 Wdli_1.2.2.2.2.1) (fA_M J5.2 Wdli_1.2.2.2.2.2.1)
    · exact dwR_e D2 (by rw [cF_M J4.2 Wdcl_1.2.2.2.2.2.2, v3_73, v2_73]) (by rw [fA_M J4.2 Wdcl_1.2.2.2.2.1, u3_74, u2_74]) (by rw [fA_M J4.2 Wdcl_1.2.2.2.2.2.1, u3_75, u2_75]) rfl rfl rfl
  · show t_X d 120 8 lv [.inr (.inr none)] g P
    refine t_2 qxg_8 rfl (w := (px_s1 lv 2 (.inr (.inr none)), [])) rfl ?_
    replace l0 : px_lg (px_s1 lv 2 (.inr (.inr none))) 0 = some (pvR 0) := s1_ne (by decide) (fun _ => rfl) l0
    replace l1 : px_lg (px_s1 lv 2 (.inr (.inr none))) 1 = some (oI (i)) := s1_ne (by decide) (fun _ => rfl) l1
    have l2 : px_lg (px_s1 lv 2 (.inr (.inr none))) 2 = some (.inr (.inr none)) := s1_eq
    generalize px_s1 lv 2 (.inr (.inr none)) = lv6 at l0 l1 l2 ⊢
    show t_X d 120 9 lv6 [] g P
    refine t_0 qxg_9 rfl (ld_a l2) ?_
    refine t_1 qxg_10 rfl (pn_of (pc := 10) ) ?_
    show t_X d 120 13 lv6 [] g P
    refine t_0 qxg_13 rfl rfl ?_
    refine t_5 qxg_14 rfl rfl ?_
    exact hR c0
/-- a row of twos goes over -/
def cpR (k a b k2 a2 b2 : Nat) (g g1 : pH) : Prop := cF g1 k2 2 = cF g k 2 ∧ ∀ j : Nat, (j : Int) < cF g k 2 → fA g1 a2 j = fA g a j ∧ fA g1 b2 j = fA g b j
def Wk144 : Nat := 2 ^ (cn 144 + 2) + 2 ^ cn 145 + 2 ^ cn 146
theorem Wk144_1 : Wk144.testBit (cn 144 + 2) = true ∧ Wk144.testBit (cn 145) = true ∧ Wk144.testBit (cn 146) = true := by decide +kernel
set_option maxHeartbeats 2000000 in
theorem pk_144 {d : Nat} (hd : 1 ≤ d) {g : pH} (hG : g_I eG g) {P : Option pv × pH → Prop} (hP : ∀ g1 : pH, J_ Wk144 g g1 → cpR 70 71 72 144 145 146 g g1 → P (none, g1)) {lv : List (Nat × pv)} (l0 : px_lg lv 0 = some (pvR 144)) (l1 : px_lg lv 1 = some (pvR 70)) : t_X d 70 0 lv [] g P := by
  have hJ : J_ Wk144 g g := J_rf hG
  obtain ⟨w_144_2, w_a145, w_a146⟩ := Wk144_1
  refine t_0 qk144_0 rfl (ld_a l0) ?_
  refine t_0 qk144_1 rfl (ld_a l1) ?_
  have r1 := cb_70_2 hJ.1
  refine t_0 qk144_2 rfl (pq_cf (y := 2) er_70 rfl) ?_
  refine t_0 qk144_5 rfl (ld_a l0) ?_
  refine t_0 qk144_6 rfl (cr_144_0 hJ.1) ?_
  refine t_0 qk144_9 rfl (pq_al el_145 rfl) ?_
  refine t_0 qk144_10 rfl (pq_mn (by omega) (by decide) ⟨by omega, by omega⟩ ⟨by omega, by omega⟩ (by omega)) ?_
  refine tw_c qk144_13 er_144 rfl hJ w_144_2 gx_144_2 (by decide) ⟨by omega, by omega⟩ (fun g2 hJ2 e2 => ?_)
  have v2 : cF g2 144 2 = cF g 70 2 := by rw [e2]; exact pc_at (by omega) (by omega)
  have u2_71 : fA g2 71 = fA g 71 := by rw [e2]; rfl
  have u2_72 : fA g2 72 = fA g 72 := by rw [e2]; rfl
  show t_X d 70 16 lv [] g2 P
  refine t_0 qk144_16 rfl (ld_a l1) ?_
  refine t_0 qk144_17 rfl (cr_70_0 hJ2.1) ?_
  refine t_0 qk144_20 rfl rfl ?_
  refine t_0 qk144_21 rfl (ld_a l0) ?_
  refine t_0 qk144_22 rfl (cr_144_0 hJ2.1) ?_
  refine t_0 qk144_25 rfl rfl ?_
  refine t_0 qk144_26 rfl (ld_a l0) ?_
  have r3 := cb_144_2 hJ2.1
  refine t_0 qk144_27 rfl (pq_cf (y := 2) er_144 rfl) ?_
  refine tw_cp qk144_30 (by omega) (by decide) hJ2 el_145 el_71 rfl ⟨by omega, by omega, by omega⟩ w_a145 (ga_71.trans ga_145.symm) (fun g4 hJ4 p4 o4 f4 => ?_)
  have v4_144 : cF g4 144 2 = cF g2 144 2 := congrArg (fun f => (f 144 2).toInt) f4
  have v4_70 : cF g4 70 2 = cF g2 70 2 := congrArg (fun f => (f 70 2).toInt) f4
  show t_X d 70 33 lv [] g4 P
  refine t_0 qk144_33 rfl (ld_a l1) ?_
  refine t_0 qk144_34 rfl (cr_70_1 hJ4.1) ?_
  refine t_0 qk144_37 rfl rfl ?_
  refine t_0 qk144_38 rfl (ld_a l0) ?_
  refine t_0 qk144_39 rfl (cr_144_1 hJ4.1) ?_
  refine t_0 qk144_42 rfl rfl ?_
  refine t_0 qk144_43 rfl (ld_a l0) ?_
  have r5 := cb_144_2 hJ4.1
  refine t_0 qk144_44 rfl (pq_cf (y := 2) er_144 rfl) ?_
  refine tw_cp qk144_47 (by omega) (by decide) hJ4 el_146 el_72 rfl ⟨by omega, by omega, by omega⟩ w_a146 (ga_72.trans ga_146.symm) (fun g6 hJ6 p6 o6 f6 => ?_)
  have v6_144 : cF g6 144 2 = cF g4 144 2 := congrArg (fun f => (f 144 2).toInt) f6
  have v6_70 : cF g6 70 2 = cF g4 70 2 := congrArg (fun f => (f 70 2).toInt) f6
  show t_X d 70 50 lv [] g6 P
  refine t_5 qk144_50 rfl rfl ?_
  refine hP g6 hJ6 ⟨by omega, fun j hj => ⟨?_, ?_⟩⟩
  · rw [o6 145 (by decide), p4]
    show (if (j : Int) < _ then fA g2 71 j else _) = _
    rw [if_pos (by omega), u2_71]
  · rw [p6]
    show (if (j : Int) < _ then fA g4 72 j else _) = _
    rw [if_pos (by omega), o4 72 (by decide), u2_72]
def Wk147 : Nat := 2 ^ (cn 147 + 2) + 2 ^ cn 148 + 2 ^ cn 149
theorem Wk147_1 : Wk147.testBit (cn 147 + 2) = true ∧ Wk147.testBit (cn 148) = true ∧ Wk147.testBit (cn 149) = true := by decide +kernel
set_option maxHeartbeats 2000000 in
theorem pk_147 {d : Nat} (hd : 1 ≤ d) {g : pH} (hG : g_I eG g) {P : Option pv × pH → Prop} (hP : ∀ g1 : pH, J_ Wk147 g g1 → cpR 73 74 75 147 148 149 g g1 → P (none, g1)) {lv : List (Nat × pv)} (l0 : px_lg lv 0 = some (pvR 147)) (l1 : px_lg lv 1 = some (pvR 73)) : t_X d 70 0 lv [] g P := by
  have hJ : J_ Wk147 g g := J_rf hG
  obtain ⟨w_147_2, w_a148, w_a149⟩ := Wk147_1
  refine t_0 qk147_0 rfl (ld_a l0) ?_
  refine t_0 qk147_1 rfl (ld_a l1) ?_
  have r1 := cb_73_2 hJ.1
  refine t_0 qk147_2 rfl (pq_cf (y := 2) er_73 rfl) ?_
  refine t_0 qk147_5 rfl (ld_a l0) ?_
  refine t_0 qk147_6 rfl (cr_147_0 hJ.1) ?_
  refine t_0 qk147_9 rfl (pq_al el_148 rfl) ?_
  refine t_0 qk147_10 rfl (pq_mn (by omega) (by decide) ⟨by omega, by omega⟩ ⟨by omega, by omega⟩ (by omega)) ?_
  refine tw_c qk147_13 er_147 rfl hJ w_147_2 gx_147_2 (by decide) ⟨by omega, by omega⟩ (fun g2 hJ2 e2 => ?_)
  have v2 : cF g2 147 2 = cF g 73 2 := by rw [e2]; exact pc_at (by omega) (by omega)
  have u2_74 : fA g2 74 = fA g 74 := by rw [e2]; rfl
  have u2_75 : fA g2 75 = fA g 75 := by rw [e2]; rfl
  show t_X d 70 16 lv [] g2 P
  refine t_0 qk147_16 rfl (ld_a l1) ?_
  refine t_0 qk147_17 rfl (cr_73_0 hJ2.1) ?_
  refine t_0 qk147_20 rfl rfl ?_
  refine t_0 qk147_21 rfl (ld_a l0) ?_
  refine t_0 qk147_22 rfl (cr_147_0 hJ2.1) ?_
  refine t_0 qk147_25 rfl rfl ?_
  refine t_0 qk147_26 rfl (ld_a l0) ?_
  have r3 := cb_147_2 hJ2.1
  refine t_0 qk147_27 rfl (pq_cf (y := 2) er_147 rfl) ?_
  refine tw_cp qk147_30 (by omega) (by decide) hJ2 el_148 el_74 rfl ⟨by omega, by omega, by omega⟩ w_a148 (ga_74.trans ga_148.symm) (fun g4 hJ4 p4 o4 f4 => ?_)
  have v4_147 : cF g4 147 2 = cF g2 147 2 := congrArg (fun f => (f 147 2).toInt) f4
  have v4_73 : cF g4 73 2 = cF g2 73 2 := congrArg (fun f => (f 73 2).toInt) f4
  show t_X d 70 33 lv [] g4 P
  refine t_0 qk147_33 rfl (ld_a l1) ?_
  refine t_0 qk147_34 rfl (cr_73_1 hJ4.1) ?_
  refine t_0 qk147_37 rfl rfl ?_
  refine t_0 qk147_38 rfl (ld_a l0) ?_
  refine t_0 qk147_39 rfl (cr_147_1 hJ4.1) ?_
  refine t_0 qk147_42 rfl rfl ?_
  refine t_0 qk147_43 rfl (ld_a l0) ?_
  have r5 := cb_147_2 hJ4.1
  refine t_0 qk147_44 rfl (pq_cf (y := 2) er_147 rfl) ?_
  refine tw_cp qk147_47 (by omega) (by decide) hJ4 el_149 el_75 rfl ⟨by omega, by omega, by omega⟩ w_a149 (ga_75.trans ga_149.symm) (fun g6 hJ6 p6 o6 f6 => ?_)
  have v6_147 : cF g6 147 2 = cF g4 147 2 := congrArg (fun f => (f 147 2).toInt) f6
  have v6_73 : cF g6 73 2 = cF g4 73 2 := congrArg (fun f => (f 73 2).toInt) f6
  show t_X d 70 50 lv [] g6 P
  refine t_5 qk147_50 rfl rfl ?_
  refine hP g6 hJ6 ⟨by omega, fun j hj => ⟨?_, ?_⟩⟩
  · rw [o6 148 (by decide), p4]
    show (if (j : Int) < _ then fA g2 74 j else _) = _
    rw [if_pos (by omega), u2_74]
  · rw [p6]
    show (if (j : Int) < _ then fA g4 75 j else _) = _
    rw [if_pos (by omega), o4 75 (by decide), u2_75]
def Wk70 : Nat := 2 ^ (cn 70 + 2) + 2 ^ cn 71 + 2 ^ cn 72
theorem Wk70_1 : Wk70.testBit (cn 70 + 2) = true ∧ Wk70.testBit (cn 71) = true ∧ Wk70.testBit (cn 72) = true := by decide +kernel
set_option maxHeartbeats 2000000 in
theorem pk_70 {d : Nat} (hd : 1 ≤ d) {g : pH} (hG : g_I eG g) {P : Option pv × pH → Prop} (hP : ∀ g1 : pH, J_ Wk70 g g1 → cpR 144 145 146 70 71 72 g g1 → P (none, g1)) {lv : List (Nat × pv)} (l0 : px_lg lv 0 = some (pvR 70)) (l1 : px_lg lv 1 = some (pvR 144)) : t_X d 70 0 lv [] g P := by
  have hJ : J_ Wk70 g g := J_rf hG
  obtain ⟨w_70_2, w_a71, w_a72⟩ := Wk70_1
  refine t_0 qk70_0 rfl (ld_a l0) ?_
  refine t_0 qk70_1 rfl (ld_a l1) ?_
  have r1 := cb_144_2 hJ.1
  refine t_0 qk70_2 rfl (pq_cf (y := 2) er_144 rfl) ?_
  refine t_0 qk70_5 rfl (ld_a l0) ?_
  refine t_0 qk70_6 rfl (cr_70_0 hJ.1) ?_
  refine t_0 qk70_9 rfl (pq_al el_71 rfl) ?_
  refine t_0 qk70_10 rfl (pq_mn (by omega) (by decide) ⟨by omega, by omega⟩ ⟨by omega, by omega⟩ (by omega)) ?_
  refine tw_c qk70_13 er_70 rfl hJ w_70_2 gx_70_2 (by decide) ⟨by omega, by omega⟩ (fun g2 hJ2 e2 => ?_)
  have v2 : cF g2 70 2 = cF g 144 2 := by rw [e2]; exact pc_at (by omega) (by omega)
  have u2_145 : fA g2 145 = fA g 145 := by rw [e2]; rfl
  have u2_146 : fA g2 146 = fA g 146 := by rw [e2]; rfl
  show t_X d 70 16 lv [] g2 P
  refine t_0 qk70_16 rfl (ld_a l1) ?_
  refine t_0 qk70_17 rfl (cr_144_0 hJ2.1) ?_
  refine t_0 qk70_20 rfl rfl ?_
  refine t_0 qk70_21 rfl (ld_a l0) ?_
  refine t_0 qk70_22 rfl (cr_70_0 hJ2.1) ?_
  refine t_0 qk70_25 rfl rfl ?_
  refine t_0 qk70_26 rfl (ld_a l0) ?_
  have r3 := cb_70_2 hJ2.1
  refine t_0 qk70_27 rfl (pq_cf (y := 2) er_70 rfl) ?_
  refine tw_cp qk70_30 (by omega) (by decide) hJ2 el_71 el_145 rfl ⟨by omega, by omega, by omega⟩ w_a71 (ga_145.trans ga_71.symm) (fun g4 hJ4 p4 o4 f4 => ?_)
  have v4_70 : cF g4 70 2 = cF g2 70 2 := congrArg (fun f => (f 70 2).toInt) f4
  have v4_144 : cF g4 144 2 = cF g2 144 2 := congrArg (fun f => (f 144 2).toInt) f4
  show t_X d 70 33 lv [] g4 P
  refine t_0 qk70_33 rfl (ld_a l1) ?_
  refine t_0 qk70_34 rfl (cr_144_1 hJ4.1) ?_
  refine t_0 qk70_37 rfl rfl ?_
  refine t_0 qk70_38 rfl (ld_a l0) ?_
  refine t_0 qk70_39 rfl (cr_70_1 hJ4.1) ?_
  refine t_0 qk70_42 rfl rfl ?_
  refine t_0 qk70_43 rfl (ld_a l0) ?_
  have r5 := cb_70_2 hJ4.1
  refine t_0 qk70_44 rfl (pq_cf (y := 2) er_70 rfl) ?_
  refine tw_cp qk70_47 (by omega) (by decide) hJ4 el_72 el_146 rfl ⟨by omega, by omega, by omega⟩ w_a72 (ga_146.trans ga_72.symm) (fun g6 hJ6 p6 o6 f6 => ?_)
  have v6_70 : cF g6 70 2 = cF g4 70 2 := congrArg (fun f => (f 70 2).toInt) f6
  have v6_144 : cF g6 144 2 = cF g4 144 2 := congrArg (fun f => (f 144 2).toInt) f6
  show t_X d 70 50 lv [] g6 P
  refine t_5 qk70_50 rfl rfl ?_
  refine hP g6 hJ6 ⟨by omega, fun j hj => ⟨?_, ?_⟩⟩
  · rw [o6 71 (by decide), p4]
    show (if (j : Int) < _ then fA g2 145 j else _) = _
    rw [if_pos (by omega), u2_145]
  · rw [p6]
    show (if (j : Int) < _ then fA g4 146 j else _) = _
    rw [if_pos (by omega), o4 146 (by decide), u2_146]
def Wk73 : Nat := 2 ^ (cn 73 + 2) + 2 ^ cn 74 + 2 ^ cn 75
theorem Wk73_1 : Wk73.testBit (cn 73 + 2) = true ∧ Wk73.testBit (cn 74) = true ∧ Wk73.testBit (cn 75) = true := by decide +kernel
set_option maxHeartbeats 2000000 in
theorem pk_73 {d : Nat} (hd : 1 ≤ d) {g : pH} (hG : g_I eG g) {P : Option pv × pH → Prop} (hP : ∀ g1 : pH, J_ Wk73 g g1 → cpR 147 148 149 73 74 75 g g1 → P (none, g1)) {lv : List (Nat × pv)} (l0 : px_lg lv 0 = some (pvR 73)) (l1 : px_lg lv 1 = some (pvR 147)) : t_X d 70 0 lv [] g P := by
  have hJ : J_ Wk73 g g := J_rf hG
  obtain ⟨w_73_2, w_a74, w_a75⟩ := Wk73_1
  refine t_0 qk73_0 rfl (ld_a l0) ?_
  refine t_0 qk73_1 rfl (ld_a l1) ?_
  have r1 := cb_147_2 hJ.1
  refine t_0 qk73_2 rfl (pq_cf (y := 2) er_147 rfl) ?_
  refine t_0 qk73_5 rfl (ld_a l0) ?_
  refine t_0 qk73_6 rfl (cr_73_0 hJ.1) ?_
  refine t_0 qk73_9 rfl (pq_al el_74 rfl) ?_
  refine t_0 qk73_10 rfl (pq_mn (by omega) (by decide) ⟨by omega, by omega⟩ ⟨by omega, by omega⟩ (by omega)) ?_
  refine tw_c qk73_13 er_73 rfl hJ w_73_2 gx_73_2 (by decide) ⟨by omega, by omega⟩ (fun g2 hJ2 e2 => ?_)
  have v2 : cF g2 73 2 = cF g 147 2 := by rw [e2]; exact pc_at (by omega) (by omega)
  have u2_148 : fA g2 148 = fA g 148 := by rw [e2]; rfl
  have u2_149 : fA g2 149 = fA g 149 := by rw [e2]; rfl
  show t_X d 70 16 lv [] g2 P
  refine t_0 qk73_16 rfl (ld_a l1) ?_
  refine t_0 qk73_17 rfl (cr_147_0 hJ2.1) ?_
  refine t_0 qk73_20 rfl rfl ?_
  refine t_0 qk73_21 rfl (ld_a l0) ?_
  refine t_0 qk73_22 rfl (cr_73_0 hJ2.1) ?_
  refine t_0 qk73_25 rfl rfl ?_
  refine t_0 qk73_26 rfl (ld_a l0) ?_
  have r3 := cb_73_2 hJ2.1
  refine t_0 qk73_27 rfl (pq_cf (y := 2) er_73 rfl) ?_
  refine tw_cp qk73_30 (by omega) (by decide) hJ2 el_74 el_148 rfl ⟨by omega, by omega, by omega⟩ w_a74 (ga_148.trans ga_74.symm) (fun g4 hJ4 p4 o4 f4 => ?_)
  have v4_73 : cF g4 73 2 = cF g2 73 2 := congrArg (fun f => (f 73 2).toInt) f4
  have v4_147 : cF g4 147 2 = cF g2 147 2 := congrArg (fun f => (f 147 2).toInt) f4
  show t_X d 70 33 lv [] g4 P
  refine t_0 qk73_33 rfl (ld_a l1) ?_
  refine t_0 qk73_34 rfl (cr_147_1 hJ4.1) ?_
  refine t_0 qk73_37 rfl rfl ?_
  refine t_0 qk73_38 rfl (ld_a l0) ?_
  refine t_0 qk73_39 rfl (cr_73_1 hJ4.1) ?_
  refine t_0 qk73_42 rfl rfl ?_
  refine t_0 qk73_43 rfl (ld_a l0) ?_
  have r5 := cb_73_2 hJ4.1
  refine t_0 qk73_44 rfl (pq_cf (y := 2) er_73 rfl) ?_
  refine tw_cp qk73_47 (by omega) (by decide) hJ4 el_75 el_149 rfl ⟨by omega, by omega, by omega⟩ w_a75 (ga_149.trans ga_75.symm) (fun g6 hJ6 p6 o6 f6 => ?_)
  have v6_73 : cF g6 73 2 = cF g4 73 2 := congrArg (fun f => (f 73 2).toInt) f6
  have v6_147 : cF g6 147 2 = cF g4 147 2 := congrArg (fun f => (f 147 2).toInt) f6
  show t_X d 70 50 lv [] g6 P
  refine t_5 qk73_50 rfl rfl ?_
  refine hP g6 hJ6 ⟨by omega, fun j hj => ⟨?_, ?_⟩⟩
  · rw [o6 74 (by decide), p4]
    show (if (j : Int) < _ then fA g2 148 j else _) = _
    rw [if_pos (by omega), u2_148]
  · rw [p6]
    show (if (j : Int) < _ then fA g4 149 j else _) = _
    rw [if_pos (by omega), o4 149 (by decide), u2_149]
