theorem d_Gm_init_0 : decode b_Gm_init 0 = .ok (.aload_n 0, 1) := by decide +kernel
theorem d_Gm_init_1 : decode b_Gm_init 1 = .ok (.invokespecial 1, 3) := by decide +kernel
theorem d_Gm_init_4 : decode b_Gm_init 4 = .ok (.aload_n 0, 1) := by decide +kernel
theorem d_Gm_init_5 : decode b_Gm_init 5 = .ok (.new 7, 3) := by decide +kernel
theorem d_Gm_init_8 : decode b_Gm_init 8 = .ok (.dup, 1) := by decide +kernel
theorem d_Gm_init_9 : decode b_Gm_init 9 = .ok (.invokespecial 9, 3) := by decide +kernel
theorem d_Gm_init_12 : decode b_Gm_init 12 = .ok (.putfield 10, 3) := by decide +kernel
theorem d_Gm_init_15 : decode b_Gm_init 15 = .ok (.aload_n 0, 1) := by decide +kernel
theorem d_Gm_init_16 : decode b_Gm_init 16 = .ok (.new 7, 3) := by decide +kernel
theorem d_Gm_init_19 : decode b_Gm_init 19 = .ok (.dup, 1) := by decide +kernel
theorem d_Gm_init_20 : decode b_Gm_init 20 = .ok (.invokespecial 9, 3) := by decide +kernel
theorem d_Gm_init_23 : decode b_Gm_init 23 = .ok (.putfield 16, 3) := by decide +kernel
theorem d_Gm_init_26 : decode b_Gm_init 26 = .ok (.return_, 1) := by decide +kernel
theorem d_Gm_rack_0 : decode b_Gm_rack 0 = .ok (.iload_n 1, 1) := by decide +kernel
theorem d_Gm_rack_1 : decode b_Gm_rack 1 = .ok (.iconst 1, 1) := by decide +kernel
theorem d_Gm_rack_2 : decode b_Gm_rack 2 = .ok (.bipush (16), 2) := by decide +kernel
theorem d_Gm_rack_4 : decode b_Gm_rack 4 = .ok (.invokestatic 19, 3) := by decide +kernel
theorem d_Gm_rack_7 : decode b_Gm_rack 7 = .ok (.ifCond .eq (6), 3) := by decide +kernel
theorem d_Gm_rack_10 : decode b_Gm_rack 10 = .ok (.bipush (-3), 2) := by decide +kernel
theorem d_Gm_rack_12 : decode b_Gm_rack 12 = .ok (.ireturn, 1) := by decide +kernel
theorem d_Gm_rack_13 : decode b_Gm_rack 13 = .ok (.aload_n 0, 1) := by decide +kernel
theorem d_Gm_rack_14 : decode b_Gm_rack 14 = .ok (.getfield 10, 3) := by decide +kernel
theorem d_Gm_rack_17 : decode b_Gm_rack 17 = .ok (.getfield 23, 3) := by decide +kernel
theorem d_Gm_rack_20 : decode b_Gm_rack 20 = .ok (.iconst 4, 1) := by decide +kernel
theorem d_Gm_rack_21 : decode b_Gm_rack 21 = .ok (.if_icmp .lt (6), 3) := by decide +kernel
theorem d_Gm_rack_24 : decode b_Gm_rack 24 = .ok (.bipush (-5), 2) := by decide +kernel
theorem d_Gm_rack_26 : decode b_Gm_rack 26 = .ok (.ireturn, 1) := by decide +kernel
theorem d_Gm_rack_27 : decode b_Gm_rack 27 = .ok (.aload_n 0, 1) := by decide +kernel
theorem d_Gm_rack_28 : decode b_Gm_rack 28 = .ok (.getfield 10, 3) := by decide +kernel
theorem d_Gm_rack_31 : decode b_Gm_rack 31 = .ok (.iload_n 1, 1) := by decide +kernel
theorem d_Gm_rack_32 : decode b_Gm_rack 32 = .ok (.invokevirtual 27, 3) := by decide +kernel
theorem d_Gm_rack_35 : decode b_Gm_rack 35 = .ok (.ireturn, 1) := by decide +kernel
theorem d_Gm_drain_0 : decode b_Gm_drain 0 = .ok (.aload_n 0, 1) := by decide +kernel
theorem d_Gm_drain_1 : decode b_Gm_drain 1 = .ok (.getfield 10, 3) := by decide +kernel
theorem d_Gm_drain_4 : decode b_Gm_drain 4 = .ok (.iload_n 1, 1) := by decide +kernel
theorem d_Gm_drain_5 : decode b_Gm_drain 5 = .ok (.invokevirtual 31, 3) := by decide +kernel
theorem d_Gm_drain_8 : decode b_Gm_drain 8 = .ok (.ifCond .ne (6), 3) := by decide +kernel
theorem d_Gm_drain_11 : decode b_Gm_drain 11 = .ok (.bipush (-2), 2) := by decide +kernel
theorem d_Gm_drain_13 : decode b_Gm_drain 13 = .ok (.ireturn, 1) := by decide +kernel
theorem d_Gm_drain_14 : decode b_Gm_drain 14 = .ok (.aload_n 0, 1) := by decide +kernel
theorem d_Gm_drain_15 : decode b_Gm_drain 15 = .ok (.getfield 10, 3) := by decide +kernel
theorem d_Gm_drain_18 : decode b_Gm_drain 18 = .ok (.getfield 35, 3) := by decide +kernel
theorem d_Gm_drain_21 : decode b_Gm_drain 21 = .ok (.iload_n 1, 1) := by decide +kernel
theorem d_Gm_drain_22 : decode b_Gm_drain 22 = .ok (.aaload, 1) := by decide +kernel
theorem d_Gm_drain_23 : decode b_Gm_drain 23 = .ok (.getfield 39, 3) := by decide +kernel
theorem d_Gm_drain_26 : decode b_Gm_drain 26 = .ok (.ifCond .eq (7), 3) := by decide +kernel
theorem d_Gm_drain_29 : decode b_Gm_drain 29 = .ok (.iconst 1, 1) := by decide +kernel
theorem d_Gm_drain_30 : decode b_Gm_drain 30 = .ok (.goto (4), 3) := by decide +kernel
theorem d_Gm_drain_33 : decode b_Gm_drain 33 = .ok (.iconst 0, 1) := by decide +kernel
theorem d_Gm_drain_34 : decode b_Gm_drain 34 = .ok (.istore_n 3, 1) := by decide +kernel
theorem d_Gm_drain_35 : decode b_Gm_drain 35 = .ok (.aload_n 0, 1) := by decide +kernel
theorem d_Gm_drain_36 : decode b_Gm_drain 36 = .ok (.getfield 10, 3) := by decide +kernel
theorem d_Gm_drain_39 : decode b_Gm_drain 39 = .ok (.getfield 35, 3) := by decide +kernel
theorem d_Gm_drain_42 : decode b_Gm_drain 42 = .ok (.iload_n 1, 1) := by decide +kernel
theorem d_Gm_drain_43 : decode b_Gm_drain 43 = .ok (.aaload, 1) := by decide +kernel
theorem d_Gm_drain_44 : decode b_Gm_drain 44 = .ok (.iload_n 2, 1) := by decide +kernel
theorem d_Gm_drain_45 : decode b_Gm_drain 45 = .ok (.putfield 39, 3) := by decide +kernel
theorem d_Gm_drain_48 : decode b_Gm_drain 48 = .ok (.aload_n 0, 1) := by decide +kernel
theorem d_Gm_drain_49 : decode b_Gm_drain 49 = .ok (.getfield 10, 3) := by decide +kernel
theorem d_Gm_drain_52 : decode b_Gm_drain 52 = .ok (.invokevirtual 45, 3) := by decide +kernel
theorem d_Gm_drain_55 : decode b_Gm_drain 55 = .ok (.iload_n 3, 1) := by decide +kernel
theorem d_Gm_drain_56 : decode b_Gm_drain 56 = .ok (.ireturn, 1) := by decide +kernel
theorem d_Gm_fail_0 : decode b_Gm_fail 0 = .ok (.aload_n 0, 1) := by decide +kernel
theorem d_Gm_fail_1 : decode b_Gm_fail 1 = .ok (.getfield 10, 3) := by decide +kernel
theorem d_Gm_fail_4 : decode b_Gm_fail 4 = .ok (.iload_n 1, 1) := by decide +kernel
theorem d_Gm_fail_5 : decode b_Gm_fail 5 = .ok (.invokevirtual 31, 3) := by decide +kernel
theorem d_Gm_fail_8 : decode b_Gm_fail 8 = .ok (.ifCond .ne (6), 3) := by decide +kernel
theorem d_Gm_fail_11 : decode b_Gm_fail 11 = .ok (.bipush (-2), 2) := by decide +kernel
theorem d_Gm_fail_13 : decode b_Gm_fail 13 = .ok (.ireturn, 1) := by decide +kernel
theorem d_Gm_fail_14 : decode b_Gm_fail 14 = .ok (.aload_n 0, 1) := by decide +kernel
theorem d_Gm_fail_15 : decode b_Gm_fail 15 = .ok (.getfield 10, 3) := by decide +kernel
theorem d_Gm_fail_18 : decode b_Gm_fail 18 = .ok (.iload_n 1, 1) := by decide +kernel
theorem d_Gm_fail_19 : decode b_Gm_fail 19 = .ok (.invokevirtual 48, 3) := by decide +kernel
theorem d_Gm_fail_22 : decode b_Gm_fail 22 = .ok (.ireturn, 1) := by decide +kernel
theorem d_Gm_licences_0 : decode b_Gm_licences 0 = .ok (.iload_n 1, 1) := by decide +kernel
theorem d_Gm_licences_1 : decode b_Gm_licences 1 = .ok (.iconst 0, 1) := by decide +kernel
theorem d_Gm_licences_2 : decode b_Gm_licences 2 = .ok (.bipush (100), 2) := by decide +kernel
theorem d_Gm_licences_4 : decode b_Gm_licences 4 = .ok (.invokestatic 19, 3) := by decide +kernel
theorem d_Gm_licences_7 : decode b_Gm_licences 7 = .ok (.ifCond .eq (6), 3) := by decide +kernel
theorem d_Gm_licences_10 : decode b_Gm_licences 10 = .ok (.bipush (-3), 2) := by decide +kernel
theorem d_Gm_licences_12 : decode b_Gm_licences 12 = .ok (.ireturn, 1) := by decide +kernel
theorem d_Gm_licences_13 : decode b_Gm_licences 13 = .ok (.aload_n 0, 1) := by decide +kernel
theorem d_Gm_licences_14 : decode b_Gm_licences 14 = .ok (.getfield 10, 3) := by decide +kernel
theorem d_Gm_licences_17 : decode b_Gm_licences 17 = .ok (.getfield 51, 3) := by decide +kernel
theorem d_Gm_licences_20 : decode b_Gm_licences 20 = .ok (.istore_n 2, 1) := by decide +kernel
theorem d_Gm_licences_21 : decode b_Gm_licences 21 = .ok (.aload_n 0, 1) := by decide +kernel
theorem d_Gm_licences_22 : decode b_Gm_licences 22 = .ok (.getfield 10, 3) := by decide +kernel
theorem d_Gm_licences_25 : decode b_Gm_licences 25 = .ok (.iload_n 1, 1) := by decide +kernel
theorem d_Gm_licences_26 : decode b_Gm_licences 26 = .ok (.putfield 51, 3) := by decide +kernel
theorem d_Gm_licences_29 : decode b_Gm_licences 29 = .ok (.iload_n 2, 1) := by decide +kernel
theorem d_Gm_licences_30 : decode b_Gm_licences 30 = .ok (.ireturn, 1) := by decide +kernel
theorem d_Gm_half_0 : decode b_Gm_half 0 = .ok (.iload_n 1, 1) := by decide +kernel
theorem d_Gm_half_1 : decode b_Gm_half 1 = .ok (.iconst 1, 1) := by decide +kernel
theorem d_Gm_half_2 : decode b_Gm_half 2 = .ok (.sipush (1000), 3) := by decide +kernel
theorem d_Gm_half_5 : decode b_Gm_half 5 = .ok (.invokestatic 19, 3) := by decide +kernel
theorem d_Gm_half_8 : decode b_Gm_half 8 = .ok (.ifCond .eq (6), 3) := by decide +kernel
theorem d_Gm_half_11 : decode b_Gm_half 11 = .ok (.bipush (-3), 2) := by decide +kernel
theorem d_Gm_half_13 : decode b_Gm_half 13 = .ok (.ireturn, 1) := by decide +kernel
theorem d_Gm_half_14 : decode b_Gm_half 14 = .ok (.aload_n 0, 1) := by decide +kernel
theorem d_Gm_half_15 : decode b_Gm_half 15 = .ok (.getfield 10, 3) := by decide +kernel
theorem d_Gm_half_18 : decode b_Gm_half 18 = .ok (.getfield 54, 3) := by decide +kernel
theorem d_Gm_half_21 : decode b_Gm_half 21 = .ok (.istore_n 2, 1) := by decide +kernel
theorem d_Gm_half_22 : decode b_Gm_half 22 = .ok (.aload_n 0, 1) := by decide +kernel
theorem d_Gm_half_23 : decode b_Gm_half 23 = .ok (.getfield 10, 3) := by decide +kernel
theorem d_Gm_half_26 : decode b_Gm_half 26 = .ok (.iload_n 1, 1) := by decide +kernel
theorem d_Gm_half_27 : decode b_Gm_half 27 = .ok (.putfield 54, 3) := by decide +kernel
theorem d_Gm_half_30 : decode b_Gm_half 30 = .ok (.iload_n 2, 1) := by decide +kernel
theorem d_Gm_half_31 : decode b_Gm_half 31 = .ok (.ireturn, 1) := by decide +kernel
theorem d_Gm_account_0 : decode b_Gm_account 0 = .ok (.iload_n 1, 1) := by decide +kernel
theorem d_Gm_account_1 : decode b_Gm_account 1 = .ok (.iconst 1, 1) := by decide +kernel
theorem d_Gm_account_2 : decode b_Gm_account 2 = .ok (.bipush (100), 2) := by decide +kernel
theorem d_Gm_account_4 : decode b_Gm_account 4 = .ok (.invokestatic 19, 3) := by decide +kernel
theorem d_Gm_account_7 : decode b_Gm_account 7 = .ok (.ifCond .eq (6), 3) := by decide +kernel
theorem d_Gm_account_10 : decode b_Gm_account 10 = .ok (.bipush (-3), 2) := by decide +kernel
theorem d_Gm_account_12 : decode b_Gm_account 12 = .ok (.ireturn, 1) := by decide +kernel
theorem d_Gm_account_13 : decode b_Gm_account 13 = .ok (.aload_n 0, 1) := by decide +kernel
theorem d_Gm_account_14 : decode b_Gm_account 14 = .ok (.getfield 10, 3) := by decide +kernel
theorem d_Gm_account_17 : decode b_Gm_account 17 = .ok (.getfield 57, 3) := by decide +kernel
theorem d_Gm_account_20 : decode b_Gm_account 20 = .ok (.bipush (6), 2) := by decide +kernel
theorem d_Gm_account_22 : decode b_Gm_account 22 = .ok (.if_icmp .lt (6), 3) := by decide +kernel
theorem d_Gm_account_25 : decode b_Gm_account 25 = .ok (.bipush (-5), 2) := by decide +kernel
theorem d_Gm_account_27 : decode b_Gm_account 27 = .ok (.ireturn, 1) := by decide +kernel
theorem d_Gm_account_28 : decode b_Gm_account 28 = .ok (.aload_n 0, 1) := by decide +kernel
theorem d_Gm_account_29 : decode b_Gm_account 29 = .ok (.getfield 10, 3) := by decide +kernel
theorem d_Gm_account_32 : decode b_Gm_account 32 = .ok (.iload_n 1, 1) := by decide +kernel
theorem d_Gm_account_33 : decode b_Gm_account 33 = .ok (.invokevirtual 60, 3) := by decide +kernel
theorem d_Gm_account_36 : decode b_Gm_account 36 = .ok (.ireturn, 1) := by decide +kernel
theorem d_Gm_job_0 : decode b_Gm_job 0 = .ok (.aload_n 0, 1) := by decide +kernel
theorem d_Gm_job_1 : decode b_Gm_job 1 = .ok (.getfield 10, 3) := by decide +kernel
theorem d_Gm_job_4 : decode b_Gm_job 4 = .ok (.iload_n 1, 1) := by decide +kernel
theorem d_Gm_job_5 : decode b_Gm_job 5 = .ok (.invokevirtual 63, 3) := by decide +kernel
theorem d_Gm_job_8 : decode b_Gm_job 8 = .ok (.ifCond .ne (6), 3) := by decide +kernel
theorem d_Gm_job_11 : decode b_Gm_job 11 = .ok (.bipush (-2), 2) := by decide +kernel
theorem d_Gm_job_13 : decode b_Gm_job 13 = .ok (.ireturn, 1) := by decide +kernel
theorem d_Gm_job_14 : decode b_Gm_job 14 = .ok (.iload_n 2, 1) := by decide +kernel
theorem d_Gm_job_15 : decode b_Gm_job 15 = .ok (.iconst 1, 1) := by decide +kernel
theorem d_Gm_job_16 : decode b_Gm_job 16 = .ok (.bipush (64), 2) := by decide +kernel
theorem d_Gm_job_18 : decode b_Gm_job 18 = .ok (.invokestatic 19, 3) := by decide +kernel
theorem d_Gm_job_21 : decode b_Gm_job 21 = .ok (.ifCond .ne (46), 3) := by decide +kernel
theorem d_Gm_job_24 : decode b_Gm_job 24 = .ok (.iload_n 3, 1) := by decide +kernel
theorem d_Gm_job_25 : decode b_Gm_job 25 = .ok (.iconst 0, 1) := by decide +kernel
theorem d_Gm_job_26 : decode b_Gm_job 26 = .ok (.bipush (100), 2) := by decide +kernel
theorem d_Gm_job_28 : decode b_Gm_job 28 = .ok (.invokestatic 19, 3) := by decide +kernel
theorem d_Gm_job_31 : decode b_Gm_job 31 = .ok (.ifCond .ne (36), 3) := by decide +kernel
theorem d_Gm_job_34 : decode b_Gm_job 34 = .ok (.iload 4, 2) := by decide +kernel
theorem d_Gm_job_36 : decode b_Gm_job 36 = .ok (.iconst 1, 1) := by decide +kernel
theorem d_Gm_job_37 : decode b_Gm_job 37 = .ok (.bipush (50), 2) := by decide +kernel
theorem d_Gm_job_39 : decode b_Gm_job 39 = .ok (.invokestatic 19, 3) := by decide +kernel
theorem d_Gm_job_42 : decode b_Gm_job 42 = .ok (.ifCond .ne (25), 3) := by decide +kernel
theorem d_Gm_job_45 : decode b_Gm_job 45 = .ok (.iload 5, 2) := by decide +kernel
theorem d_Gm_job_47 : decode b_Gm_job 47 = .ok (.iconst 1, 1) := by decide +kernel
theorem d_Gm_job_48 : decode b_Gm_job 48 = .ok (.iload 4, 2) := by decide +kernel
theorem d_Gm_job_50 : decode b_Gm_job 50 = .ok (.invokestatic 19, 3) := by decide +kernel
theorem d_Gm_job_53 : decode b_Gm_job 53 = .ok (.ifCond .ne (14), 3) := by decide +kernel
theorem d_Gm_job_56 : decode b_Gm_job 56 = .ok (.iload 6, 2) := by decide +kernel
theorem d_Gm_job_58 : decode b_Gm_job 58 = .ok (.iconst 0, 1) := by decide +kernel
theorem d_Gm_job_59 : decode b_Gm_job 59 = .ok (.bipush (50), 2) := by decide +kernel
theorem d_Gm_job_61 : decode b_Gm_job 61 = .ok (.invokestatic 19, 3) := by decide +kernel
theorem d_Gm_job_64 : decode b_Gm_job 64 = .ok (.ifCond .eq (6), 3) := by decide +kernel
theorem d_Gm_job_67 : decode b_Gm_job 67 = .ok (.bipush (-3), 2) := by decide +kernel
theorem d_Gm_job_69 : decode b_Gm_job 69 = .ok (.ireturn, 1) := by decide +kernel
theorem d_Gm_job_70 : decode b_Gm_job 70 = .ok (.aload_n 0, 1) := by decide +kernel
theorem d_Gm_job_71 : decode b_Gm_job 71 = .ok (.getfield 10, 3) := by decide +kernel
theorem d_Gm_job_74 : decode b_Gm_job 74 = .ok (.getfield 66, 3) := by decide +kernel
theorem d_Gm_job_77 : decode b_Gm_job 77 = .ok (.bipush (30), 2) := by decide +kernel
theorem d_Gm_job_79 : decode b_Gm_job 79 = .ok (.if_icmp .lt (6), 3) := by decide +kernel
theorem d_Gm_job_82 : decode b_Gm_job 82 = .ok (.bipush (-5), 2) := by decide +kernel
theorem d_Gm_job_84 : decode b_Gm_job 84 = .ok (.ireturn, 1) := by decide +kernel
theorem d_Gm_job_85 : decode b_Gm_job 85 = .ok (.aload_n 0, 1) := by decide +kernel
theorem d_Gm_job_86 : decode b_Gm_job 86 = .ok (.getfield 10, 3) := by decide +kernel
theorem d_Gm_job_89 : decode b_Gm_job 89 = .ok (.getfield 66, 3) := by decide +kernel
theorem d_Gm_job_92 : decode b_Gm_job 92 = .ok (.istore 7, 2) := by decide +kernel
theorem d_Gm_job_94 : decode b_Gm_job 94 = .ok (.aload_n 0, 1) := by decide +kernel
theorem d_Gm_job_95 : decode b_Gm_job 95 = .ok (.getfield 10, 3) := by decide +kernel
theorem d_Gm_job_98 : decode b_Gm_job 98 = .ok (.getfield 69, 3) := by decide +kernel
theorem d_Gm_job_101 : decode b_Gm_job 101 = .ok (.iload 7, 2) := by decide +kernel
theorem d_Gm_job_103 : decode b_Gm_job 103 = .ok (.aaload, 1) := by decide +kernel
theorem d_Gm_job_104 : decode b_Gm_job 104 = .ok (.iload_n 1, 1) := by decide +kernel
theorem d_Gm_job_105 : decode b_Gm_job 105 = .ok (.iload_n 2, 1) := by decide +kernel
theorem d_Gm_job_106 : decode b_Gm_job 106 = .ok (.iload_n 3, 1) := by decide +kernel
theorem d_Gm_job_107 : decode b_Gm_job 107 = .ok (.iload 4, 2) := by decide +kernel
theorem d_Gm_job_109 : decode b_Gm_job 109 = .ok (.iload 5, 2) := by decide +kernel
theorem d_Gm_job_111 : decode b_Gm_job 111 = .ok (.iload 6, 2) := by decide +kernel
theorem d_Gm_job_113 : decode b_Gm_job 113 = .ok (.invokevirtual 73, 3) := by decide +kernel
theorem d_Gm_job_116 : decode b_Gm_job 116 = .ok (.aload_n 0, 1) := by decide +kernel
theorem d_Gm_job_117 : decode b_Gm_job 117 = .ok (.getfield 10, 3) := by decide +kernel
theorem d_Gm_job_120 : decode b_Gm_job 120 = .ok (.dup, 1) := by decide +kernel
theorem d_Gm_job_121 : decode b_Gm_job 121 = .ok (.getfield 66, 3) := by decide +kernel
theorem d_Gm_job_124 : decode b_Gm_job 124 = .ok (.iconst 1, 1) := by decide +kernel
theorem d_Gm_job_125 : decode b_Gm_job 125 = .ok (.iadd, 1) := by decide +kernel
theorem d_Gm_job_126 : decode b_Gm_job 126 = .ok (.putfield 66, 3) := by decide +kernel
theorem d_Gm_job_129 : decode b_Gm_job 129 = .ok (.iload 7, 2) := by decide +kernel
theorem d_Gm_job_131 : decode b_Gm_job 131 = .ok (.ireturn, 1) := by decide +kernel
theorem d_Gm_behind_0 : decode b_Gm_behind 0 = .ok (.aload_n 0, 1) := by decide +kernel
theorem d_Gm_behind_1 : decode b_Gm_behind 1 = .ok (.getfield 10, 3) := by decide +kernel
theorem d_Gm_behind_4 : decode b_Gm_behind 4 = .ok (.iload_n 1, 1) := by decide +kernel
theorem d_Gm_behind_5 : decode b_Gm_behind 5 = .ok (.invokevirtual 79, 3) := by decide +kernel
theorem d_Gm_behind_8 : decode b_Gm_behind 8 = .ok (.ifCond .eq (19), 3) := by decide +kernel
theorem d_Gm_behind_11 : decode b_Gm_behind 11 = .ok (.iload_n 2, 1) := by decide +kernel
theorem d_Gm_behind_12 : decode b_Gm_behind 12 = .ok (.iconst (-1), 1) := by decide +kernel
theorem d_Gm_behind_13 : decode b_Gm_behind 13 = .ok (.if_icmp .eq (17), 3) := by decide +kernel
theorem d_Gm_behind_16 : decode b_Gm_behind 16 = .ok (.aload_n 0, 1) := by decide +kernel
theorem d_Gm_behind_17 : decode b_Gm_behind 17 = .ok (.getfield 10, 3) := by decide +kernel
theorem d_Gm_behind_20 : decode b_Gm_behind 20 = .ok (.iload_n 2, 1) := by decide +kernel
theorem d_Gm_behind_21 : decode b_Gm_behind 21 = .ok (.invokevirtual 79, 3) := by decide +kernel
theorem d_Gm_behind_24 : decode b_Gm_behind 24 = .ok (.ifCond .ne (6), 3) := by decide +kernel
theorem d_Gm_behind_27 : decode b_Gm_behind 27 = .ok (.bipush (-2), 2) := by decide +kernel
theorem d_Gm_behind_29 : decode b_Gm_behind 29 = .ok (.ireturn, 1) := by decide +kernel
theorem d_Gm_behind_30 : decode b_Gm_behind 30 = .ok (.iload_n 2, 1) := by decide +kernel
theorem d_Gm_behind_31 : decode b_Gm_behind 31 = .ok (.iload_n 1, 1) := by decide +kernel
theorem d_Gm_behind_32 : decode b_Gm_behind 32 = .ok (.if_icmp .lt (6), 3) := by decide +kernel
theorem d_Gm_behind_35 : decode b_Gm_behind 35 = .ok (.bipush (-3), 2) := by decide +kernel
theorem d_Gm_behind_37 : decode b_Gm_behind 37 = .ok (.ireturn, 1) := by decide +kernel
theorem d_Gm_behind_38 : decode b_Gm_behind 38 = .ok (.aload_n 0, 1) := by decide +kernel
theorem d_Gm_behind_39 : decode b_Gm_behind 39 = .ok (.getfield 10, 3) := by decide +kernel
theorem d_Gm_behind_42 : decode b_Gm_behind 42 = .ok (.getfield 69, 3) := by decide +kernel
theorem d_Gm_behind_45 : decode b_Gm_behind 45 = .ok (.iload_n 1, 1) := by decide +kernel
theorem d_Gm_behind_46 : decode b_Gm_behind 46 = .ok (.aaload, 1) := by decide +kernel
theorem d_Gm_behind_47 : decode b_Gm_behind 47 = .ok (.getfield 82, 3) := by decide +kernel
theorem d_Gm_behind_50 : decode b_Gm_behind 50 = .ok (.ifCond .eq (6), 3) := by decide +kernel
theorem d_Gm_behind_53 : decode b_Gm_behind 53 = .ok (.bipush (-4), 2) := by decide +kernel
theorem d_Gm_behind_55 : decode b_Gm_behind 55 = .ok (.ireturn, 1) := by decide +kernel
theorem d_Gm_behind_56 : decode b_Gm_behind 56 = .ok (.aload_n 0, 1) := by decide +kernel
theorem d_Gm_behind_57 : decode b_Gm_behind 57 = .ok (.getfield 10, 3) := by decide +kernel
theorem d_Gm_behind_60 : decode b_Gm_behind 60 = .ok (.getfield 69, 3) := by decide +kernel
theorem d_Gm_behind_63 : decode b_Gm_behind 63 = .ok (.iload_n 1, 1) := by decide +kernel
theorem d_Gm_behind_64 : decode b_Gm_behind 64 = .ok (.aaload, 1) := by decide +kernel
theorem d_Gm_behind_65 : decode b_Gm_behind 65 = .ok (.iload_n 2, 1) := by decide +kernel
theorem d_Gm_behind_66 : decode b_Gm_behind 66 = .ok (.putfield 85, 3) := by decide +kernel
theorem d_Gm_behind_69 : decode b_Gm_behind 69 = .ok (.iconst 1, 1) := by decide +kernel
theorem d_Gm_behind_70 : decode b_Gm_behind 70 = .ok (.ireturn, 1) := by decide +kernel
theorem d_Gm_cancel_0 : decode b_Gm_cancel 0 = .ok (.aload_n 0, 1) := by decide +kernel
theorem d_Gm_cancel_1 : decode b_Gm_cancel 1 = .ok (.getfield 10, 3) := by decide +kernel
theorem d_Gm_cancel_4 : decode b_Gm_cancel 4 = .ok (.iload_n 1, 1) := by decide +kernel
theorem d_Gm_cancel_5 : decode b_Gm_cancel 5 = .ok (.invokevirtual 79, 3) := by decide +kernel
theorem d_Gm_cancel_8 : decode b_Gm_cancel 8 = .ok (.ifCond .ne (6), 3) := by decide +kernel
theorem d_Gm_cancel_11 : decode b_Gm_cancel 11 = .ok (.bipush (-2), 2) := by decide +kernel
theorem d_Gm_cancel_13 : decode b_Gm_cancel 13 = .ok (.ireturn, 1) := by decide +kernel
theorem d_Gm_cancel_14 : decode b_Gm_cancel 14 = .ok (.aload_n 0, 1) := by decide +kernel
theorem d_Gm_cancel_15 : decode b_Gm_cancel 15 = .ok (.getfield 10, 3) := by decide +kernel
theorem d_Gm_cancel_18 : decode b_Gm_cancel 18 = .ok (.getfield 69, 3) := by decide +kernel
theorem d_Gm_cancel_21 : decode b_Gm_cancel 21 = .ok (.iload_n 1, 1) := by decide +kernel
theorem d_Gm_cancel_22 : decode b_Gm_cancel 22 = .ok (.aaload, 1) := by decide +kernel
theorem d_Gm_cancel_23 : decode b_Gm_cancel 23 = .ok (.astore_n 2, 1) := by decide +kernel
theorem d_Gm_cancel_24 : decode b_Gm_cancel 24 = .ok (.aload_n 2, 1) := by decide +kernel
theorem d_Gm_cancel_25 : decode b_Gm_cancel 25 = .ok (.getfield 82, 3) := by decide +kernel
theorem d_Gm_cancel_28 : decode b_Gm_cancel 28 = .ok (.ifCond .eq (14), 3) := by decide +kernel
theorem d_Gm_cancel_31 : decode b_Gm_cancel 31 = .ok (.aload_n 2, 1) := by decide +kernel
theorem d_Gm_cancel_32 : decode b_Gm_cancel 32 = .ok (.getfield 82, 3) := by decide +kernel
theorem d_Gm_cancel_35 : decode b_Gm_cancel 35 = .ok (.iconst 1, 1) := by decide +kernel
theorem d_Gm_cancel_36 : decode b_Gm_cancel 36 = .ok (.if_icmp .eq (6), 3) := by decide +kernel
theorem d_Gm_cancel_39 : decode b_Gm_cancel 39 = .ok (.bipush (-4), 2) := by decide +kernel
theorem d_Gm_cancel_41 : decode b_Gm_cancel 41 = .ok (.ireturn, 1) := by decide +kernel
theorem d_Gm_cancel_42 : decode b_Gm_cancel 42 = .ok (.aload_n 0, 1) := by decide +kernel
theorem d_Gm_cancel_43 : decode b_Gm_cancel 43 = .ok (.getfield 10, 3) := by decide +kernel
theorem d_Gm_cancel_46 : decode b_Gm_cancel 46 = .ok (.aload_n 2, 1) := by decide +kernel
theorem d_Gm_cancel_47 : decode b_Gm_cancel 47 = .ok (.invokevirtual 88, 3) := by decide +kernel
theorem d_Gm_cancel_50 : decode b_Gm_cancel 50 = .ok (.aload_n 2, 1) := by decide +kernel
theorem d_Gm_cancel_51 : decode b_Gm_cancel 51 = .ok (.iconst 3, 1) := by decide +kernel
theorem d_Gm_cancel_52 : decode b_Gm_cancel 52 = .ok (.putfield 82, 3) := by decide +kernel
theorem d_Gm_cancel_55 : decode b_Gm_cancel 55 = .ok (.iconst 1, 1) := by decide +kernel
theorem d_Gm_cancel_56 : decode b_Gm_cancel 56 = .ok (.ireturn, 1) := by decide +kernel
theorem d_Gm_book_0 : decode b_Gm_book 0 = .ok (.iload_n 1, 1) := by decide +kernel
theorem d_Gm_book_1 : decode b_Gm_book 1 = .ok (.iconst 1, 1) := by decide +kernel
theorem d_Gm_book_2 : decode b_Gm_book 2 = .ok (.bipush (64), 2) := by decide +kernel
theorem d_Gm_book_4 : decode b_Gm_book 4 = .ok (.invokestatic 19, 3) := by decide +kernel
theorem d_Gm_book_7 : decode b_Gm_book 7 = .ok (.ifCond .ne (26), 3) := by decide +kernel
theorem d_Gm_book_10 : decode b_Gm_book 10 = .ok (.iload_n 2, 1) := by decide +kernel
theorem d_Gm_book_11 : decode b_Gm_book 11 = .ok (.aload_n 0, 1) := by decide +kernel
theorem d_Gm_book_12 : decode b_Gm_book 12 = .ok (.getfield 10, 3) := by decide +kernel
theorem d_Gm_book_15 : decode b_Gm_book 15 = .ok (.getfield 92, 3) := by decide +kernel
theorem d_Gm_book_18 : decode b_Gm_book 18 = .ok (.if_icmp .lt (15), 3) := by decide +kernel
theorem d_Gm_book_21 : decode b_Gm_book 21 = .ok (.iload_n 3, 1) := by decide +kernel
theorem d_Gm_book_22 : decode b_Gm_book 22 = .ok (.iload_n 2, 1) := by decide +kernel
theorem d_Gm_book_23 : decode b_Gm_book 23 = .ok (.if_icmp .le (10), 3) := by decide +kernel
theorem d_Gm_book_26 : decode b_Gm_book 26 = .ok (.iload_n 3, 1) := by decide +kernel
theorem d_Gm_book_27 : decode b_Gm_book 27 = .ok (.sipush (3000), 3) := by decide +kernel
theorem d_Gm_book_30 : decode b_Gm_book 30 = .ok (.if_icmp .le (6), 3) := by decide +kernel
theorem d_Gm_book_33 : decode b_Gm_book 33 = .ok (.bipush (-3), 2) := by decide +kernel
theorem d_Gm_book_35 : decode b_Gm_book 35 = .ok (.ireturn, 1) := by decide +kernel
theorem d_Gm_book_36 : decode b_Gm_book 36 = .ok (.aload_n 0, 1) := by decide +kernel
theorem d_Gm_book_37 : decode b_Gm_book 37 = .ok (.getfield 10, 3) := by decide +kernel
theorem d_Gm_book_40 : decode b_Gm_book 40 = .ok (.iload_n 1, 1) := by decide +kernel
theorem d_Gm_book_41 : decode b_Gm_book 41 = .ok (.iload_n 2, 1) := by decide +kernel
theorem d_Gm_book_42 : decode b_Gm_book 42 = .ok (.iload_n 3, 1) := by decide +kernel
theorem d_Gm_book_43 : decode b_Gm_book 43 = .ok (.invokevirtual 95, 3) := by decide +kernel
theorem d_Gm_book_46 : decode b_Gm_book 46 = .ok (.ifCond .ne (6), 3) := by decide +kernel
theorem d_Gm_book_49 : decode b_Gm_book 49 = .ok (.bipush (-4), 2) := by decide +kernel
theorem d_Gm_book_51 : decode b_Gm_book 51 = .ok (.ireturn, 1) := by decide +kernel
theorem d_Gm_book_52 : decode b_Gm_book 52 = .ok (.aload_n 0, 1) := by decide +kernel
theorem d_Gm_book_53 : decode b_Gm_book 53 = .ok (.getfield 10, 3) := by decide +kernel
theorem d_Gm_book_56 : decode b_Gm_book 56 = .ok (.getfield 98, 3) := by decide +kernel
theorem d_Gm_book_59 : decode b_Gm_book 59 = .ok (.bipush (8), 2) := by decide +kernel
theorem d_Gm_book_61 : decode b_Gm_book 61 = .ok (.if_icmp .lt (6), 3) := by decide +kernel
theorem d_Gm_book_64 : decode b_Gm_book 64 = .ok (.bipush (-5), 2) := by decide +kernel
theorem d_Gm_book_66 : decode b_Gm_book 66 = .ok (.ireturn, 1) := by decide +kernel
theorem d_Gm_book_67 : decode b_Gm_book 67 = .ok (.aload_n 0, 1) := by decide +kernel
theorem d_Gm_book_68 : decode b_Gm_book 68 = .ok (.getfield 10, 3) := by decide +kernel
theorem d_Gm_book_71 : decode b_Gm_book 71 = .ok (.getfield 98, 3) := by decide +kernel
theorem d_Gm_book_74 : decode b_Gm_book 74 = .ok (.istore 4, 2) := by decide +kernel
theorem d_Gm_book_76 : decode b_Gm_book 76 = .ok (.aload_n 0, 1) := by decide +kernel
theorem d_Gm_book_77 : decode b_Gm_book 77 = .ok (.getfield 10, 3) := by decide +kernel
theorem d_Gm_book_80 : decode b_Gm_book 80 = .ok (.getfield 101, 3) := by decide +kernel
theorem d_Gm_book_83 : decode b_Gm_book 83 = .ok (.iload 4, 2) := by decide +kernel
theorem d_Gm_book_85 : decode b_Gm_book 85 = .ok (.aaload, 1) := by decide +kernel
theorem d_Gm_book_86 : decode b_Gm_book 86 = .ok (.iload_n 1, 1) := by decide +kernel
theorem d_Gm_book_87 : decode b_Gm_book 87 = .ok (.iconst 0, 1) := by decide +kernel
theorem d_Gm_book_88 : decode b_Gm_book 88 = .ok (.iload_n 2, 1) := by decide +kernel
theorem d_Gm_book_89 : decode b_Gm_book 89 = .ok (.iload_n 3, 1) := by decide +kernel
theorem d_Gm_book_90 : decode b_Gm_book 90 = .ok (.invokevirtual 105, 3) := by decide +kernel
theorem d_Gm_book_93 : decode b_Gm_book 93 = .ok (.aload_n 0, 1) := by decide +kernel
theorem d_Gm_book_94 : decode b_Gm_book 94 = .ok (.getfield 10, 3) := by decide +kernel
theorem d_Gm_book_97 : decode b_Gm_book 97 = .ok (.dup, 1) := by decide +kernel
theorem d_Gm_book_98 : decode b_Gm_book 98 = .ok (.getfield 98, 3) := by decide +kernel
theorem d_Gm_book_101 : decode b_Gm_book 101 = .ok (.iconst 1, 1) := by decide +kernel
theorem d_Gm_book_102 : decode b_Gm_book 102 = .ok (.iadd, 1) := by decide +kernel
theorem d_Gm_book_103 : decode b_Gm_book 103 = .ok (.putfield 98, 3) := by decide +kernel
theorem d_Gm_book_106 : decode b_Gm_book 106 = .ok (.iload 4, 2) := by decide +kernel
theorem d_Gm_book_108 : decode b_Gm_book 108 = .ok (.ireturn, 1) := by decide +kernel
theorem d_Gm_unbook_0 : decode b_Gm_unbook 0 = .ok (.iload_n 1, 1) := by decide +kernel
theorem d_Gm_unbook_1 : decode b_Gm_unbook 1 = .ok (.ifCond .lt (14), 3) := by decide +kernel
theorem d_Gm_unbook_4 : decode b_Gm_unbook 4 = .ok (.iload_n 1, 1) := by decide +kernel
theorem d_Gm_unbook_5 : decode b_Gm_unbook 5 = .ok (.aload_n 0, 1) := by decide +kernel
theorem d_Gm_unbook_6 : decode b_Gm_unbook 6 = .ok (.getfield 10, 3) := by decide +kernel
theorem d_Gm_unbook_9 : decode b_Gm_unbook 9 = .ok (.getfield 98, 3) := by decide +kernel
theorem d_Gm_unbook_12 : decode b_Gm_unbook 12 = .ok (.if_icmp .lt (6), 3) := by decide +kernel
theorem d_Gm_unbook_15 : decode b_Gm_unbook 15 = .ok (.bipush (-2), 2) := by decide +kernel
theorem d_Gm_unbook_17 : decode b_Gm_unbook 17 = .ok (.ireturn, 1) := by decide +kernel
theorem d_Gm_unbook_18 : decode b_Gm_unbook 18 = .ok (.aload_n 0, 1) := by decide +kernel
theorem d_Gm_unbook_19 : decode b_Gm_unbook 19 = .ok (.getfield 10, 3) := by decide +kernel
theorem d_Gm_unbook_22 : decode b_Gm_unbook 22 = .ok (.iload_n 1, 1) := by decide +kernel
theorem d_Gm_unbook_23 : decode b_Gm_unbook 23 = .ok (.invokevirtual 111, 3) := by decide +kernel
theorem d_Gm_unbook_26 : decode b_Gm_unbook 26 = .ok (.iconst 1, 1) := by decide +kernel
theorem d_Gm_unbook_27 : decode b_Gm_unbook 27 = .ok (.ireturn, 1) := by decide +kernel
theorem d_Gm_ticks_0 : decode b_Gm_ticks 0 = .ok (.iload_n 1, 1) := by decide +kernel
theorem d_Gm_ticks_1 : decode b_Gm_ticks 1 = .ok (.iconst 1, 1) := by decide +kernel
theorem d_Gm_ticks_2 : decode b_Gm_ticks 2 = .ok (.bipush (100), 2) := by decide +kernel
theorem d_Gm_ticks_4 : decode b_Gm_ticks 4 = .ok (.invokestatic 19, 3) := by decide +kernel
theorem d_Gm_ticks_7 : decode b_Gm_ticks 7 = .ok (.ifCond .ne (18), 3) := by decide +kernel
theorem d_Gm_ticks_10 : decode b_Gm_ticks 10 = .ok (.aload_n 0, 1) := by decide +kernel
theorem d_Gm_ticks_11 : decode b_Gm_ticks 11 = .ok (.getfield 10, 3) := by decide +kernel
theorem d_Gm_ticks_14 : decode b_Gm_ticks 14 = .ok (.getfield 92, 3) := by decide +kernel
theorem d_Gm_ticks_17 : decode b_Gm_ticks 17 = .ok (.iload_n 1, 1) := by decide +kernel
theorem d_Gm_ticks_18 : decode b_Gm_ticks 18 = .ok (.iadd, 1) := by decide +kernel
theorem d_Gm_ticks_19 : decode b_Gm_ticks 19 = .ok (.sipush (2000), 3) := by decide +kernel
theorem d_Gm_ticks_22 : decode b_Gm_ticks 22 = .ok (.if_icmp .le (6), 3) := by decide +kernel
theorem d_Gm_ticks_25 : decode b_Gm_ticks 25 = .ok (.bipush (-3), 2) := by decide +kernel
theorem d_Gm_ticks_27 : decode b_Gm_ticks 27 = .ok (.ireturn, 1) := by decide +kernel
theorem d_Gm_ticks_28 : decode b_Gm_ticks 28 = .ok (.iconst 0, 1) := by decide +kernel
theorem d_Gm_ticks_29 : decode b_Gm_ticks 29 = .ok (.istore_n 2, 1) := by decide +kernel
theorem d_Gm_ticks_30 : decode b_Gm_ticks 30 = .ok (.iload_n 2, 1) := by decide +kernel
theorem d_Gm_ticks_31 : decode b_Gm_ticks 31 = .ok (.iload_n 1, 1) := by decide +kernel
theorem d_Gm_ticks_32 : decode b_Gm_ticks 32 = .ok (.if_icmp .ge (17), 3) := by decide +kernel
theorem d_Gm_ticks_35 : decode b_Gm_ticks 35 = .ok (.aload_n 0, 1) := by decide +kernel
theorem d_Gm_ticks_36 : decode b_Gm_ticks 36 = .ok (.getfield 10, 3) := by decide +kernel
theorem d_Gm_ticks_39 : decode b_Gm_ticks 39 = .ok (.iconst 0, 1) := by decide +kernel
theorem d_Gm_ticks_40 : decode b_Gm_ticks 40 = .ok (.invokevirtual 115, 3) := by decide +kernel
theorem d_Gm_ticks_43 : decode b_Gm_ticks 43 = .ok (.iinc 2 (1), 3) := by decide +kernel
theorem d_Gm_ticks_46 : decode b_Gm_ticks 46 = .ok (.goto (-16), 3) := by decide +kernel
theorem d_Gm_ticks_49 : decode b_Gm_ticks 49 = .ok (.aload_n 0, 1) := by decide +kernel
theorem d_Gm_ticks_50 : decode b_Gm_ticks 50 = .ok (.getfield 10, 3) := by decide +kernel
theorem d_Gm_ticks_53 : decode b_Gm_ticks 53 = .ok (.getfield 92, 3) := by decide +kernel
theorem d_Gm_ticks_56 : decode b_Gm_ticks 56 = .ok (.ireturn, 1) := by decide +kernel
theorem d_Gm_told_0 : decode b_Gm_told 0 = .ok (.aload_n 0, 1) := by decide +kernel
theorem d_Gm_told_1 : decode b_Gm_told 1 = .ok (.getfield 10, 3) := by decide +kernel
theorem d_Gm_told_4 : decode b_Gm_told 4 = .ok (.iload_n 1, 1) := by decide +kernel
theorem d_Gm_told_5 : decode b_Gm_told 5 = .ok (.invokevirtual 79, 3) := by decide +kernel
theorem d_Gm_told_8 : decode b_Gm_told 8 = .ok (.ifCond .ne (6), 3) := by decide +kernel
theorem d_Gm_told_11 : decode b_Gm_told 11 = .ok (.bipush (-2), 2) := by decide +kernel
theorem d_Gm_told_13 : decode b_Gm_told 13 = .ok (.ireturn, 1) := by decide +kernel
theorem d_Gm_told_14 : decode b_Gm_told 14 = .ok (.aload_n 0, 1) := by decide +kernel
theorem d_Gm_told_15 : decode b_Gm_told 15 = .ok (.getfield 10, 3) := by decide +kernel
theorem d_Gm_told_18 : decode b_Gm_told 18 = .ok (.getfield 69, 3) := by decide +kernel
theorem d_Gm_told_21 : decode b_Gm_told 21 = .ok (.iload_n 1, 1) := by decide +kernel
theorem d_Gm_told_22 : decode b_Gm_told 22 = .ok (.aaload, 1) := by decide +kernel
theorem d_Gm_told_23 : decode b_Gm_told 23 = .ok (.astore_n 3, 1) := by decide +kernel
theorem d_Gm_told_24 : decode b_Gm_told 24 = .ok (.iload_n 2, 1) := by decide +kernel
theorem d_Gm_told_25 : decode b_Gm_told 25 = .ok (.tableswitch (76) 0 5 #[39, 44, 49, 54, 59, 71], 39) := by decide +kernel
theorem d_Gm_told_64 : decode b_Gm_told 64 = .ok (.aload_n 3, 1) := by decide +kernel
theorem d_Gm_told_65 : decode b_Gm_told 65 = .ok (.getfield 82, 3) := by decide +kernel
theorem d_Gm_told_68 : decode b_Gm_told 68 = .ok (.ireturn, 1) := by decide +kernel
theorem d_Gm_told_69 : decode b_Gm_told 69 = .ok (.aload_n 3, 1) := by decide +kernel
theorem d_Gm_told_70 : decode b_Gm_told 70 = .ok (.getfield 119, 3) := by decide +kernel
theorem d_Gm_told_73 : decode b_Gm_told 73 = .ok (.ireturn, 1) := by decide +kernel
theorem d_Gm_told_74 : decode b_Gm_told 74 = .ok (.aload_n 3, 1) := by decide +kernel
theorem d_Gm_told_75 : decode b_Gm_told 75 = .ok (.getfield 122, 3) := by decide +kernel
theorem d_Gm_told_78 : decode b_Gm_told 78 = .ok (.ireturn, 1) := by decide +kernel
theorem d_Gm_told_79 : decode b_Gm_told 79 = .ok (.aload_n 3, 1) := by decide +kernel
theorem d_Gm_told_80 : decode b_Gm_told 80 = .ok (.getfield 125, 3) := by decide +kernel
theorem d_Gm_told_83 : decode b_Gm_told 83 = .ok (.ireturn, 1) := by decide +kernel
theorem d_Gm_told_84 : decode b_Gm_told 84 = .ok (.aload_n 3, 1) := by decide +kernel
theorem d_Gm_told_85 : decode b_Gm_told 85 = .ok (.aload_n 0, 1) := by decide +kernel
theorem d_Gm_told_86 : decode b_Gm_told 86 = .ok (.getfield 10, 3) := by decide +kernel
theorem d_Gm_told_89 : decode b_Gm_told 89 = .ok (.getfield 92, 3) := by decide +kernel
theorem d_Gm_told_92 : decode b_Gm_told 92 = .ok (.invokevirtual 128, 3) := by decide +kernel
theorem d_Gm_told_95 : decode b_Gm_told 95 = .ok (.ireturn, 1) := by decide +kernel
theorem d_Gm_told_96 : decode b_Gm_told 96 = .ok (.aload_n 3, 1) := by decide +kernel
theorem d_Gm_told_97 : decode b_Gm_told 97 = .ok (.invokevirtual 131, 3) := by decide +kernel
theorem d_Gm_told_100 : decode b_Gm_told 100 = .ok (.ireturn, 1) := by decide +kernel
theorem d_Gm_told_101 : decode b_Gm_told 101 = .ok (.bipush (-3), 2) := by decide +kernel
theorem d_Gm_told_103 : decode b_Gm_told 103 = .ok (.ireturn, 1) := by decide +kernel
theorem d_Gm_on_0 : decode b_Gm_on 0 = .ok (.aload_n 0, 1) := by decide +kernel
theorem d_Gm_on_1 : decode b_Gm_on 1 = .ok (.getfield 10, 3) := by decide +kernel
theorem d_Gm_on_4 : decode b_Gm_on 4 = .ok (.iload_n 1, 1) := by decide +kernel
theorem d_Gm_on_5 : decode b_Gm_on 5 = .ok (.invokevirtual 79, 3) := by decide +kernel
theorem d_Gm_on_8 : decode b_Gm_on 8 = .ok (.ifCond .eq (14), 3) := by decide +kernel
theorem d_Gm_on_11 : decode b_Gm_on 11 = .ok (.aload_n 0, 1) := by decide +kernel
theorem d_Gm_on_12 : decode b_Gm_on 12 = .ok (.getfield 10, 3) := by decide +kernel
theorem d_Gm_on_15 : decode b_Gm_on 15 = .ok (.iload_n 2, 1) := by decide +kernel
theorem d_Gm_on_16 : decode b_Gm_on 16 = .ok (.invokevirtual 31, 3) := by decide +kernel
theorem d_Gm_on_19 : decode b_Gm_on 19 = .ok (.ifCond .ne (6), 3) := by decide +kernel
theorem d_Gm_on_22 : decode b_Gm_on 22 = .ok (.bipush (-2), 2) := by decide +kernel
theorem d_Gm_on_24 : decode b_Gm_on 24 = .ok (.ireturn, 1) := by decide +kernel
theorem d_Gm_on_25 : decode b_Gm_on 25 = .ok (.aload_n 0, 1) := by decide +kernel
theorem d_Gm_on_26 : decode b_Gm_on 26 = .ok (.getfield 10, 3) := by decide +kernel
theorem d_Gm_on_29 : decode b_Gm_on 29 = .ok (.getfield 69, 3) := by decide +kernel
theorem d_Gm_on_32 : decode b_Gm_on 32 = .ok (.iload_n 1, 1) := by decide +kernel
theorem d_Gm_on_33 : decode b_Gm_on 33 = .ok (.aaload, 1) := by decide +kernel
theorem d_Gm_on_34 : decode b_Gm_on 34 = .ok (.getfield 135, 3) := by decide +kernel
theorem d_Gm_on_37 : decode b_Gm_on 37 = .ok (.iload_n 2, 1) := by decide +kernel
theorem d_Gm_on_38 : decode b_Gm_on 38 = .ok (.iaload, 1) := by decide +kernel
theorem d_Gm_on_39 : decode b_Gm_on 39 = .ok (.ireturn, 1) := by decide +kernel
theorem d_Gm_free_0 : decode b_Gm_free 0 = .ok (.aload_n 0, 1) := by decide +kernel
theorem d_Gm_free_1 : decode b_Gm_free 1 = .ok (.getfield 10, 3) := by decide +kernel
theorem d_Gm_free_4 : decode b_Gm_free 4 = .ok (.iload_n 1, 1) := by decide +kernel
theorem d_Gm_free_5 : decode b_Gm_free 5 = .ok (.invokevirtual 31, 3) := by decide +kernel
theorem d_Gm_free_8 : decode b_Gm_free 8 = .ok (.ifCond .eq (18), 3) := by decide +kernel
theorem d_Gm_free_11 : decode b_Gm_free 11 = .ok (.aload_n 0, 1) := by decide +kernel
theorem d_Gm_free_12 : decode b_Gm_free 12 = .ok (.getfield 10, 3) := by decide +kernel
theorem d_Gm_free_15 : decode b_Gm_free 15 = .ok (.getfield 35, 3) := by decide +kernel
theorem d_Gm_free_18 : decode b_Gm_free 18 = .ok (.iload_n 1, 1) := by decide +kernel
theorem d_Gm_free_19 : decode b_Gm_free 19 = .ok (.aaload, 1) := by decide +kernel
theorem d_Gm_free_20 : decode b_Gm_free 20 = .ok (.getfield 139, 3) := by decide +kernel
theorem d_Gm_free_23 : decode b_Gm_free 23 = .ok (.goto (5), 3) := by decide +kernel
theorem d_Gm_free_26 : decode b_Gm_free 26 = .ok (.bipush (-2), 2) := by decide +kernel
theorem d_Gm_free_28 : decode b_Gm_free 28 = .ok (.ireturn, 1) := by decide +kernel
theorem d_Gm_used_0 : decode b_Gm_used 0 = .ok (.aload_n 0, 1) := by decide +kernel
theorem d_Gm_used_1 : decode b_Gm_used 1 = .ok (.getfield 10, 3) := by decide +kernel
theorem d_Gm_used_4 : decode b_Gm_used 4 = .ok (.iload_n 1, 1) := by decide +kernel
theorem d_Gm_used_5 : decode b_Gm_used 5 = .ok (.invokevirtual 63, 3) := by decide +kernel
theorem d_Gm_used_8 : decode b_Gm_used 8 = .ok (.ifCond .eq (18), 3) := by decide +kernel
theorem d_Gm_used_11 : decode b_Gm_used 11 = .ok (.aload_n 0, 1) := by decide +kernel
theorem d_Gm_used_12 : decode b_Gm_used 12 = .ok (.getfield 10, 3) := by decide +kernel
theorem d_Gm_used_15 : decode b_Gm_used 15 = .ok (.getfield 142, 3) := by decide +kernel
theorem d_Gm_used_18 : decode b_Gm_used 18 = .ok (.iload_n 1, 1) := by decide +kernel
theorem d_Gm_used_19 : decode b_Gm_used 19 = .ok (.aaload, 1) := by decide +kernel
theorem d_Gm_used_20 : decode b_Gm_used 20 = .ok (.getfield 146, 3) := by decide +kernel
theorem d_Gm_used_23 : decode b_Gm_used 23 = .ok (.goto (5), 3) := by decide +kernel
theorem d_Gm_used_26 : decode b_Gm_used 26 = .ok (.bipush (-2), 2) := by decide +kernel
theorem d_Gm_used_28 : decode b_Gm_used 28 = .ok (.ireturn, 1) := by decide +kernel
theorem d_Gm_blocked_0 : decode b_Gm_blocked 0 = .ok (.iload_n 1, 1) := by decide +kernel
theorem d_Gm_blocked_1 : decode b_Gm_blocked 1 = .ok (.lookupswitch (43) #[(0, 27), (1, 35)], 27) := by decide +kernel
theorem d_Gm_blocked_28 : decode b_Gm_blocked 28 = .ok (.aload_n 0, 1) := by decide +kernel
theorem d_Gm_blocked_29 : decode b_Gm_blocked 29 = .ok (.getfield 10, 3) := by decide +kernel
theorem d_Gm_blocked_32 : decode b_Gm_blocked 32 = .ok (.getfield 151, 3) := by decide +kernel
theorem d_Gm_blocked_35 : decode b_Gm_blocked 35 = .ok (.ireturn, 1) := by decide +kernel
theorem d_Gm_blocked_36 : decode b_Gm_blocked 36 = .ok (.aload_n 0, 1) := by decide +kernel
theorem d_Gm_blocked_37 : decode b_Gm_blocked 37 = .ok (.getfield 10, 3) := by decide +kernel
theorem d_Gm_blocked_40 : decode b_Gm_blocked 40 = .ok (.getfield 154, 3) := by decide +kernel
theorem d_Gm_blocked_43 : decode b_Gm_blocked 43 = .ok (.ireturn, 1) := by decide +kernel
theorem d_Gm_blocked_44 : decode b_Gm_blocked 44 = .ok (.bipush (-3), 2) := by decide +kernel
theorem d_Gm_blocked_46 : decode b_Gm_blocked 46 = .ok (.ireturn, 1) := by decide +kernel
theorem d_Gm_taken_0 : decode b_Gm_taken 0 = .ok (.iload_n 1, 1) := by decide +kernel
theorem d_Gm_taken_1 : decode b_Gm_taken 1 = .ok (.iconst 0, 1) := by decide +kernel
theorem d_Gm_taken_2 : decode b_Gm_taken 2 = .ok (.iconst 1, 1) := by decide +kernel
theorem d_Gm_taken_3 : decode b_Gm_taken 3 = .ok (.invokestatic 19, 3) := by decide +kernel
theorem d_Gm_taken_6 : decode b_Gm_taken 6 = .ok (.ifCond .ne (28), 3) := by decide +kernel
theorem d_Gm_taken_9 : decode b_Gm_taken 9 = .ok (.iload_n 2, 1) := by decide +kernel
theorem d_Gm_taken_10 : decode b_Gm_taken 10 = .ok (.aload_n 0, 1) := by decide +kernel
theorem d_Gm_taken_11 : decode b_Gm_taken 11 = .ok (.getfield 10, 3) := by decide +kernel
theorem d_Gm_taken_14 : decode b_Gm_taken 14 = .ok (.getfield 92, 3) := by decide +kernel
theorem d_Gm_taken_17 : decode b_Gm_taken 17 = .ok (.aload_n 0, 1) := by decide +kernel
theorem d_Gm_taken_18 : decode b_Gm_taken 18 = .ok (.getfield 10, 3) := by decide +kernel
theorem d_Gm_taken_21 : decode b_Gm_taken 21 = .ok (.getfield 92, 3) := by decide +kernel
theorem d_Gm_taken_24 : decode b_Gm_taken 24 = .ok (.sipush (300), 3) := by decide +kernel
theorem d_Gm_taken_27 : decode b_Gm_taken 27 = .ok (.iadd, 1) := by decide +kernel
theorem d_Gm_taken_28 : decode b_Gm_taken 28 = .ok (.invokestatic 19, 3) := by decide +kernel
theorem d_Gm_taken_31 : decode b_Gm_taken 31 = .ok (.ifCond .eq (6), 3) := by decide +kernel
theorem d_Gm_taken_34 : decode b_Gm_taken 34 = .ok (.bipush (-3), 2) := by decide +kernel
theorem d_Gm_taken_36 : decode b_Gm_taken 36 = .ok (.ireturn, 1) := by decide +kernel
theorem d_Gm_taken_37 : decode b_Gm_taken 37 = .ok (.iload_n 1, 1) := by decide +kernel
theorem d_Gm_taken_38 : decode b_Gm_taken 38 = .ok (.ifCond .ne (14), 3) := by decide +kernel
theorem d_Gm_taken_41 : decode b_Gm_taken 41 = .ok (.aload_n 0, 1) := by decide +kernel
theorem d_Gm_taken_42 : decode b_Gm_taken 42 = .ok (.getfield 10, 3) := by decide +kernel
theorem d_Gm_taken_45 : decode b_Gm_taken 45 = .ok (.iload_n 2, 1) := by decide +kernel
theorem d_Gm_taken_46 : decode b_Gm_taken 46 = .ok (.invokevirtual 157, 3) := by decide +kernel
theorem d_Gm_taken_49 : decode b_Gm_taken 49 = .ok (.goto (11), 3) := by decide +kernel
theorem d_Gm_taken_52 : decode b_Gm_taken 52 = .ok (.aload_n 0, 1) := by decide +kernel
theorem d_Gm_taken_53 : decode b_Gm_taken 53 = .ok (.getfield 10, 3) := by decide +kernel
theorem d_Gm_taken_56 : decode b_Gm_taken 56 = .ok (.iload_n 2, 1) := by decide +kernel
theorem d_Gm_taken_57 : decode b_Gm_taken 57 = .ok (.invokevirtual 160, 3) := by decide +kernel
theorem d_Gm_taken_60 : decode b_Gm_taken 60 = .ok (.ireturn, 1) := by decide +kernel
theorem d_Gm_foreseen_0 : decode b_Gm_foreseen 0 = .ok (.aload_n 0, 1) := by decide +kernel
theorem d_Gm_foreseen_1 : decode b_Gm_foreseen 1 = .ok (.getfield 10, 3) := by decide +kernel
theorem d_Gm_foreseen_4 : decode b_Gm_foreseen 4 = .ok (.iload_n 1, 1) := by decide +kernel
theorem d_Gm_foreseen_5 : decode b_Gm_foreseen 5 = .ok (.invokevirtual 79, 3) := by decide +kernel
theorem d_Gm_foreseen_8 : decode b_Gm_foreseen 8 = .ok (.ifCond .ne (6), 3) := by decide +kernel
theorem d_Gm_foreseen_11 : decode b_Gm_foreseen 11 = .ok (.bipush (-2), 2) := by decide +kernel
theorem d_Gm_foreseen_13 : decode b_Gm_foreseen 13 = .ok (.ireturn, 1) := by decide +kernel
theorem d_Gm_foreseen_14 : decode b_Gm_foreseen 14 = .ok (.aload_n 0, 1) := by decide +kernel
theorem d_Gm_foreseen_15 : decode b_Gm_foreseen 15 = .ok (.getfield 10, 3) := by decide +kernel
theorem d_Gm_foreseen_18 : decode b_Gm_foreseen 18 = .ok (.getfield 69, 3) := by decide +kernel
theorem d_Gm_foreseen_21 : decode b_Gm_foreseen 21 = .ok (.iload_n 1, 1) := by decide +kernel
theorem d_Gm_foreseen_22 : decode b_Gm_foreseen 22 = .ok (.aaload, 1) := by decide +kernel
theorem d_Gm_foreseen_23 : decode b_Gm_foreseen 23 = .ok (.astore_n 2, 1) := by decide +kernel
theorem d_Gm_foreseen_24 : decode b_Gm_foreseen 24 = .ok (.aload_n 2, 1) := by decide +kernel
theorem d_Gm_foreseen_25 : decode b_Gm_foreseen 25 = .ok (.getfield 82, 3) := by decide +kernel
theorem d_Gm_foreseen_28 : decode b_Gm_foreseen 28 = .ok (.iconst 1, 1) := by decide +kernel
theorem d_Gm_foreseen_29 : decode b_Gm_foreseen 29 = .ok (.if_icmp .ne (8), 3) := by decide +kernel
theorem d_Gm_foreseen_32 : decode b_Gm_foreseen 32 = .ok (.aload_n 2, 1) := by decide +kernel
theorem d_Gm_foreseen_33 : decode b_Gm_foreseen 33 = .ok (.getfield 119, 3) := by decide +kernel
theorem d_Gm_foreseen_36 : decode b_Gm_foreseen 36 = .ok (.ireturn, 1) := by decide +kernel
theorem d_Gm_foreseen_37 : decode b_Gm_foreseen 37 = .ok (.aload_n 2, 1) := by decide +kernel
theorem d_Gm_foreseen_38 : decode b_Gm_foreseen 38 = .ok (.getfield 82, 3) := by decide +kernel
theorem d_Gm_foreseen_41 : decode b_Gm_foreseen 41 = .ok (.ifCond .eq (5), 3) := by decide +kernel
theorem d_Gm_foreseen_44 : decode b_Gm_foreseen 44 = .ok (.iconst (-1), 1) := by decide +kernel
theorem d_Gm_foreseen_45 : decode b_Gm_foreseen 45 = .ok (.ireturn, 1) := by decide +kernel
theorem d_Gm_foreseen_46 : decode b_Gm_foreseen 46 = .ok (.aload_n 0, 1) := by decide +kernel
theorem d_Gm_foreseen_47 : decode b_Gm_foreseen 47 = .ok (.getfield 16, 3) := by decide +kernel
theorem d_Gm_foreseen_50 : decode b_Gm_foreseen 50 = .ok (.aload_n 0, 1) := by decide +kernel
theorem d_Gm_foreseen_51 : decode b_Gm_foreseen 51 = .ok (.getfield 10, 3) := by decide +kernel
theorem d_Gm_foreseen_54 : decode b_Gm_foreseen 54 = .ok (.invokevirtual 163, 3) := by decide +kernel
theorem d_Gm_foreseen_57 : decode b_Gm_foreseen 57 = .ok (.aload_n 0, 1) := by decide +kernel
theorem d_Gm_foreseen_58 : decode b_Gm_foreseen 58 = .ok (.getfield 16, 3) := by decide +kernel
theorem d_Gm_foreseen_61 : decode b_Gm_foreseen 61 = .ok (.getfield 69, 3) := by decide +kernel
theorem d_Gm_foreseen_64 : decode b_Gm_foreseen 64 = .ok (.iload_n 1, 1) := by decide +kernel
theorem d_Gm_foreseen_65 : decode b_Gm_foreseen 65 = .ok (.aaload, 1) := by decide +kernel
theorem d_Gm_foreseen_66 : decode b_Gm_foreseen 66 = .ok (.astore_n 3, 1) := by decide +kernel
theorem d_Gm_foreseen_67 : decode b_Gm_foreseen 67 = .ok (.iconst 0, 1) := by decide +kernel
theorem d_Gm_foreseen_68 : decode b_Gm_foreseen 68 = .ok (.istore 4, 2) := by decide +kernel
theorem d_Gm_foreseen_70 : decode b_Gm_foreseen 70 = .ok (.iload 4, 2) := by decide +kernel
theorem d_Gm_foreseen_72 : decode b_Gm_foreseen 72 = .ok (.sipush (300), 3) := by decide +kernel
theorem d_Gm_foreseen_75 : decode b_Gm_foreseen 75 = .ok (.if_icmp .ge (24), 3) := by decide +kernel
theorem d_Gm_foreseen_78 : decode b_Gm_foreseen 78 = .ok (.aload_n 3, 1) := by decide +kernel
theorem d_Gm_foreseen_79 : decode b_Gm_foreseen 79 = .ok (.getfield 82, 3) := by decide +kernel
theorem d_Gm_foreseen_82 : decode b_Gm_foreseen 82 = .ok (.ifCond .ne (17), 3) := by decide +kernel
theorem d_Gm_foreseen_85 : decode b_Gm_foreseen 85 = .ok (.aload_n 0, 1) := by decide +kernel
theorem d_Gm_foreseen_86 : decode b_Gm_foreseen 86 = .ok (.getfield 16, 3) := by decide +kernel
theorem d_Gm_foreseen_89 : decode b_Gm_foreseen 89 = .ok (.iconst 1, 1) := by decide +kernel
theorem d_Gm_foreseen_90 : decode b_Gm_foreseen 90 = .ok (.invokevirtual 115, 3) := by decide +kernel
theorem d_Gm_foreseen_93 : decode b_Gm_foreseen 93 = .ok (.iinc 4 (1), 3) := by decide +kernel
theorem d_Gm_foreseen_96 : decode b_Gm_foreseen 96 = .ok (.goto (-26), 3) := by decide +kernel
theorem d_Gm_foreseen_99 : decode b_Gm_foreseen 99 = .ok (.aload_n 3, 1) := by decide +kernel
theorem d_Gm_foreseen_100 : decode b_Gm_foreseen 100 = .ok (.getfield 82, 3) := by decide +kernel
theorem d_Gm_foreseen_103 : decode b_Gm_foreseen 103 = .ok (.ifCond .ne (7), 3) := by decide +kernel
theorem d_Gm_foreseen_106 : decode b_Gm_foreseen 106 = .ok (.iconst (-1), 1) := by decide +kernel
theorem d_Gm_foreseen_107 : decode b_Gm_foreseen 107 = .ok (.goto (7), 3) := by decide +kernel
theorem d_Gm_foreseen_110 : decode b_Gm_foreseen 110 = .ok (.aload_n 3, 1) := by decide +kernel
theorem d_Gm_foreseen_111 : decode b_Gm_foreseen 111 = .ok (.getfield 119, 3) := by decide +kernel
theorem d_Gm_foreseen_114 : decode b_Gm_foreseen 114 = .ok (.ireturn, 1) := by decide +kernel
theorem d_Gm_count_0 : decode b_Gm_count 0 = .ok (.iload_n 1, 1) := by decide +kernel
theorem d_Gm_count_1 : decode b_Gm_count 1 = .ok (.tableswitch (113) 0 7 #[47, 55, 63, 71, 80, 89, 97, 105], 47) := by decide +kernel
theorem d_Gm_count_48 : decode b_Gm_count 48 = .ok (.aload_n 0, 1) := by decide +kernel
theorem d_Gm_count_49 : decode b_Gm_count 49 = .ok (.getfield 10, 3) := by decide +kernel
theorem d_Gm_count_52 : decode b_Gm_count 52 = .ok (.getfield 23, 3) := by decide +kernel
theorem d_Gm_count_55 : decode b_Gm_count 55 = .ok (.ireturn, 1) := by decide +kernel
theorem d_Gm_count_56 : decode b_Gm_count 56 = .ok (.aload_n 0, 1) := by decide +kernel
theorem d_Gm_count_57 : decode b_Gm_count 57 = .ok (.getfield 10, 3) := by decide +kernel
theorem d_Gm_count_60 : decode b_Gm_count 60 = .ok (.getfield 57, 3) := by decide +kernel
theorem d_Gm_count_63 : decode b_Gm_count 63 = .ok (.ireturn, 1) := by decide +kernel
theorem d_Gm_count_64 : decode b_Gm_count 64 = .ok (.aload_n 0, 1) := by decide +kernel
theorem d_Gm_count_65 : decode b_Gm_count 65 = .ok (.getfield 10, 3) := by decide +kernel
theorem d_Gm_count_68 : decode b_Gm_count 68 = .ok (.getfield 66, 3) := by decide +kernel
theorem d_Gm_count_71 : decode b_Gm_count 71 = .ok (.ireturn, 1) := by decide +kernel
theorem d_Gm_count_72 : decode b_Gm_count 72 = .ok (.aload_n 0, 1) := by decide +kernel
theorem d_Gm_count_73 : decode b_Gm_count 73 = .ok (.getfield 10, 3) := by decide +kernel
theorem d_Gm_count_76 : decode b_Gm_count 76 = .ok (.iconst 1, 1) := by decide +kernel
theorem d_Gm_count_77 : decode b_Gm_count 77 = .ok (.invokevirtual 167, 3) := by decide +kernel
theorem d_Gm_count_80 : decode b_Gm_count 80 = .ok (.ireturn, 1) := by decide +kernel
theorem d_Gm_count_81 : decode b_Gm_count 81 = .ok (.aload_n 0, 1) := by decide +kernel
theorem d_Gm_count_82 : decode b_Gm_count 82 = .ok (.getfield 10, 3) := by decide +kernel
theorem d_Gm_count_85 : decode b_Gm_count 85 = .ok (.iconst 2, 1) := by decide +kernel
theorem d_Gm_count_86 : decode b_Gm_count 86 = .ok (.invokevirtual 167, 3) := by decide +kernel
theorem d_Gm_count_89 : decode b_Gm_count 89 = .ok (.ireturn, 1) := by decide +kernel
theorem d_Gm_count_90 : decode b_Gm_count 90 = .ok (.aload_n 0, 1) := by decide +kernel
theorem d_Gm_count_91 : decode b_Gm_count 91 = .ok (.getfield 10, 3) := by decide +kernel
theorem d_Gm_count_94 : decode b_Gm_count 94 = .ok (.getfield 98, 3) := by decide +kernel
theorem d_Gm_count_97 : decode b_Gm_count 97 = .ok (.ireturn, 1) := by decide +kernel
theorem d_Gm_count_98 : decode b_Gm_count 98 = .ok (.aload_n 0, 1) := by decide +kernel
theorem d_Gm_count_99 : decode b_Gm_count 99 = .ok (.getfield 10, 3) := by decide +kernel
theorem d_Gm_count_102 : decode b_Gm_count 102 = .ok (.getfield 92, 3) := by decide +kernel
theorem d_Gm_count_105 : decode b_Gm_count 105 = .ok (.ireturn, 1) := by decide +kernel
theorem d_Gm_count_106 : decode b_Gm_count 106 = .ok (.aload_n 0, 1) := by decide +kernel
theorem d_Gm_count_107 : decode b_Gm_count 107 = .ok (.getfield 10, 3) := by decide +kernel
theorem d_Gm_count_110 : decode b_Gm_count 110 = .ok (.getfield 170, 3) := by decide +kernel
theorem d_Gm_count_113 : decode b_Gm_count 113 = .ok (.ireturn, 1) := by decide +kernel
theorem d_Gm_count_114 : decode b_Gm_count 114 = .ok (.bipush (-3), 2) := by decide +kernel
theorem d_Gm_count_116 : decode b_Gm_count 116 = .ok (.ireturn, 1) := by decide +kernel
theorem d_Gm_isOutside_0 : decode b_Gm_isOutside 0 = .ok (.iload_n 0, 1) := by decide +kernel
theorem d_Gm_isOutside_1 : decode b_Gm_isOutside 1 = .ok (.iload_n 1, 1) := by decide +kernel
theorem d_Gm_isOutside_2 : decode b_Gm_isOutside 2 = .ok (.if_icmp .lt (8), 3) := by decide +kernel
theorem d_Gm_isOutside_5 : decode b_Gm_isOutside 5 = .ok (.iload_n 0, 1) := by decide +kernel
theorem d_Gm_isOutside_6 : decode b_Gm_isOutside 6 = .ok (.iload_n 2, 1) := by decide +kernel
theorem d_Gm_isOutside_7 : decode b_Gm_isOutside 7 = .ok (.if_icmp .le (7), 3) := by decide +kernel
theorem d_Gm_isOutside_10 : decode b_Gm_isOutside 10 = .ok (.iconst 1, 1) := by decide +kernel
theorem d_Gm_isOutside_11 : decode b_Gm_isOutside 11 = .ok (.goto (4), 3) := by decide +kernel
theorem d_Gm_isOutside_14 : decode b_Gm_isOutside 14 = .ok (.iconst 0, 1) := by decide +kernel
theorem d_Gm_isOutside_15 : decode b_Gm_isOutside 15 = .ok (.ireturn, 1) := by decide +kernel
theorem d_Ac_init_0 : decode b_Ac_init 0 = .ok (.aload_n 0, 1) := by decide +kernel
theorem d_Ac_init_1 : decode b_Ac_init 1 = .ok (.invokespecial 1, 3) := by decide +kernel
theorem d_Ac_init_4 : decode b_Ac_init 4 = .ok (.return_, 1) := by decide +kernel
theorem d_Ac_become_0 : decode b_Ac_become 0 = .ok (.aload_n 0, 1) := by decide +kernel
theorem d_Ac_become_1 : decode b_Ac_become 1 = .ok (.aload_n 1, 1) := by decide +kernel
theorem d_Ac_become_2 : decode b_Ac_become 2 = .ok (.getfield 7, 3) := by decide +kernel
theorem d_Ac_become_5 : decode b_Ac_become 5 = .ok (.putfield 7, 3) := by decide +kernel
theorem d_Ac_become_8 : decode b_Ac_become 8 = .ok (.aload_n 0, 1) := by decide +kernel
theorem d_Ac_become_9 : decode b_Ac_become 9 = .ok (.aload_n 1, 1) := by decide +kernel
theorem d_Ac_become_10 : decode b_Ac_become 10 = .ok (.getfield 13, 3) := by decide +kernel
theorem d_Ac_become_13 : decode b_Ac_become 13 = .ok (.putfield 13, 3) := by decide +kernel
theorem d_Ac_become_16 : decode b_Ac_become 16 = .ok (.return_, 1) := by decide +kernel
theorem d_Ac_usedLessThan_0 : decode b_Ac_usedLessThan 0 = .ok (.aload_n 0, 1) := by decide +kernel
theorem d_Ac_usedLessThan_1 : decode b_Ac_usedLessThan 1 = .ok (.getfield 13, 3) := by decide +kernel
theorem d_Ac_usedLessThan_4 : decode b_Ac_usedLessThan 4 = .ok (.i2l, 1) := by decide +kernel
theorem d_Ac_usedLessThan_5 : decode b_Ac_usedLessThan 5 = .ok (.aload_n 1, 1) := by decide +kernel
theorem d_Ac_usedLessThan_6 : decode b_Ac_usedLessThan 6 = .ok (.getfield 7, 3) := by decide +kernel
theorem d_Ac_usedLessThan_9 : decode b_Ac_usedLessThan 9 = .ok (.i2l, 1) := by decide +kernel
theorem d_Ac_usedLessThan_10 : decode b_Ac_usedLessThan 10 = .ok (.lmul, 1) := by decide +kernel
theorem d_Ac_usedLessThan_11 : decode b_Ac_usedLessThan 11 = .ok (.aload_n 1, 1) := by decide +kernel
theorem d_Ac_usedLessThan_12 : decode b_Ac_usedLessThan 12 = .ok (.getfield 13, 3) := by decide +kernel
theorem d_Ac_usedLessThan_15 : decode b_Ac_usedLessThan 15 = .ok (.i2l, 1) := by decide +kernel
theorem d_Ac_usedLessThan_16 : decode b_Ac_usedLessThan 16 = .ok (.aload_n 0, 1) := by decide +kernel
theorem d_Ac_usedLessThan_17 : decode b_Ac_usedLessThan 17 = .ok (.getfield 7, 3) := by decide +kernel
theorem d_Ac_usedLessThan_20 : decode b_Ac_usedLessThan 20 = .ok (.i2l, 1) := by decide +kernel
theorem d_Ac_usedLessThan_21 : decode b_Ac_usedLessThan 21 = .ok (.lmul, 1) := by decide +kernel
theorem d_Ac_usedLessThan_22 : decode b_Ac_usedLessThan 22 = .ok (.lcmp, 1) := by decide +kernel
theorem d_Ac_usedLessThan_23 : decode b_Ac_usedLessThan 23 = .ok (.ifCond .ge (7), 3) := by decide +kernel
theorem d_Ac_usedLessThan_26 : decode b_Ac_usedLessThan 26 = .ok (.iconst 1, 1) := by decide +kernel
theorem d_Ac_usedLessThan_27 : decode b_Ac_usedLessThan 27 = .ok (.goto (4), 3) := by decide +kernel
theorem d_Ac_usedLessThan_30 : decode b_Ac_usedLessThan 30 = .ok (.iconst 0, 1) := by decide +kernel
theorem d_Ac_usedLessThan_31 : decode b_Ac_usedLessThan 31 = .ok (.ireturn, 1) := by decide +kernel
theorem d_Hd_init_0 : decode b_Hd_init 0 = .ok (.aload_n 0, 1) := by decide +kernel
theorem d_Hd_init_1 : decode b_Hd_init 1 = .ok (.invokespecial 1, 3) := by decide +kernel
theorem d_Hd_init_4 : decode b_Hd_init 4 = .ok (.return_, 1) := by decide +kernel
theorem d_Hd_set_0 : decode b_Hd_set 0 = .ok (.aload_n 0, 1) := by decide +kernel
theorem d_Hd_set_1 : decode b_Hd_set 1 = .ok (.iload_n 1, 1) := by decide +kernel
theorem d_Hd_set_2 : decode b_Hd_set 2 = .ok (.putfield 7, 3) := by decide +kernel
theorem d_Hd_set_5 : decode b_Hd_set 5 = .ok (.aload_n 0, 1) := by decide +kernel
theorem d_Hd_set_6 : decode b_Hd_set 6 = .ok (.iload_n 2, 1) := by decide +kernel
theorem d_Hd_set_7 : decode b_Hd_set 7 = .ok (.putfield 13, 3) := by decide +kernel
theorem d_Hd_set_10 : decode b_Hd_set 10 = .ok (.aload_n 0, 1) := by decide +kernel
theorem d_Hd_set_11 : decode b_Hd_set 11 = .ok (.iload_n 3, 1) := by decide +kernel
theorem d_Hd_set_12 : decode b_Hd_set 12 = .ok (.putfield 16, 3) := by decide +kernel
theorem d_Hd_set_15 : decode b_Hd_set 15 = .ok (.aload_n 0, 1) := by decide +kernel
theorem d_Hd_set_16 : decode b_Hd_set 16 = .ok (.iload 4, 2) := by decide +kernel
theorem d_Hd_set_18 : decode b_Hd_set 18 = .ok (.putfield 19, 3) := by decide +kernel
theorem d_Hd_set_21 : decode b_Hd_set 21 = .ok (.return_, 1) := by decide +kernel
theorem d_Hd_become_0 : decode b_Hd_become 0 = .ok (.aload_n 0, 1) := by decide +kernel
theorem d_Hd_become_1 : decode b_Hd_become 1 = .ok (.aload_n 1, 1) := by decide +kernel
theorem d_Hd_become_2 : decode b_Hd_become 2 = .ok (.getfield 7, 3) := by decide +kernel
theorem d_Hd_become_5 : decode b_Hd_become 5 = .ok (.aload_n 1, 1) := by decide +kernel
theorem d_Hd_become_6 : decode b_Hd_become 6 = .ok (.getfield 13, 3) := by decide +kernel
theorem d_Hd_become_9 : decode b_Hd_become 9 = .ok (.aload_n 1, 1) := by decide +kernel
theorem d_Hd_become_10 : decode b_Hd_become 10 = .ok (.getfield 16, 3) := by decide +kernel
theorem d_Hd_become_13 : decode b_Hd_become 13 = .ok (.aload_n 1, 1) := by decide +kernel
theorem d_Hd_become_14 : decode b_Hd_become 14 = .ok (.getfield 19, 3) := by decide +kernel
theorem d_Hd_become_17 : decode b_Hd_become 17 = .ok (.invokevirtual 22, 3) := by decide +kernel
theorem d_Hd_become_20 : decode b_Hd_become 20 = .ok (.return_, 1) := by decide +kernel
theorem d_Hd_beginsWithin_0 : decode b_Hd_beginsWithin 0 = .ok (.aload_n 0, 1) := by decide +kernel
theorem d_Hd_beginsWithin_1 : decode b_Hd_beginsWithin 1 = .ok (.getfield 16, 3) := by decide +kernel
theorem d_Hd_beginsWithin_4 : decode b_Hd_beginsWithin 4 = .ok (.iload_n 1, 1) := by decide +kernel
theorem d_Hd_beginsWithin_5 : decode b_Hd_beginsWithin 5 = .ok (.if_icmp .le (15), 3) := by decide +kernel
theorem d_Hd_beginsWithin_8 : decode b_Hd_beginsWithin 8 = .ok (.aload_n 0, 1) := by decide +kernel
theorem d_Hd_beginsWithin_9 : decode b_Hd_beginsWithin 9 = .ok (.getfield 16, 3) := by decide +kernel
theorem d_Hd_beginsWithin_12 : decode b_Hd_beginsWithin 12 = .ok (.iload_n 2, 1) := by decide +kernel
theorem d_Hd_beginsWithin_13 : decode b_Hd_beginsWithin 13 = .ok (.if_icmp .ge (7), 3) := by decide +kernel
theorem d_Hd_beginsWithin_16 : decode b_Hd_beginsWithin 16 = .ok (.iconst 1, 1) := by decide +kernel
theorem d_Hd_beginsWithin_17 : decode b_Hd_beginsWithin 17 = .ok (.goto (4), 3) := by decide +kernel
theorem d_Hd_beginsWithin_20 : decode b_Hd_beginsWithin 20 = .ok (.iconst 0, 1) := by decide +kernel
theorem d_Hd_beginsWithin_21 : decode b_Hd_beginsWithin 21 = .ok (.ireturn, 1) := by decide +kernel
theorem d_Jb_init_0 : decode b_Jb_init 0 = .ok (.aload_n 0, 1) := by decide +kernel
theorem d_Jb_init_1 : decode b_Jb_init 1 = .ok (.invokespecial 3, 3) := by decide +kernel
theorem d_Jb_init_4 : decode b_Jb_init 4 = .ok (.aload_n 0, 1) := by decide +kernel
theorem d_Jb_init_5 : decode b_Jb_init 5 = .ok (.iconst 4, 1) := by decide +kernel
theorem d_Jb_init_6 : decode b_Jb_init 6 = .ok (.newarray .int, 2) := by decide +kernel
theorem d_Jb_init_8 : decode b_Jb_init 8 = .ok (.putfield 9, 3) := by decide +kernel
theorem d_Jb_init_11 : decode b_Jb_init 11 = .ok (.return_, 1) := by decide +kernel
theorem d_Jb_want_0 : decode b_Jb_want 0 = .ok (.aload_n 0, 1) := by decide +kernel
theorem d_Jb_want_1 : decode b_Jb_want 1 = .ok (.iload_n 1, 1) := by decide +kernel
theorem d_Jb_want_2 : decode b_Jb_want 2 = .ok (.putfield 15, 3) := by decide +kernel
theorem d_Jb_want_5 : decode b_Jb_want 5 = .ok (.aload_n 0, 1) := by decide +kernel
theorem d_Jb_want_6 : decode b_Jb_want 6 = .ok (.iload_n 2, 1) := by decide +kernel
theorem d_Jb_want_7 : decode b_Jb_want 7 = .ok (.putfield 19, 3) := by decide +kernel
theorem d_Jb_want_10 : decode b_Jb_want 10 = .ok (.aload_n 0, 1) := by decide +kernel
theorem d_Jb_want_11 : decode b_Jb_want 11 = .ok (.iload_n 3, 1) := by decide +kernel
theorem d_Jb_want_12 : decode b_Jb_want 12 = .ok (.putfield 22, 3) := by decide +kernel
theorem d_Jb_want_15 : decode b_Jb_want 15 = .ok (.aload_n 0, 1) := by decide +kernel
theorem d_Jb_want_16 : decode b_Jb_want 16 = .ok (.iload 4, 2) := by decide +kernel
theorem d_Jb_want_18 : decode b_Jb_want 18 = .ok (.putfield 25, 3) := by decide +kernel
theorem d_Jb_want_21 : decode b_Jb_want 21 = .ok (.aload_n 0, 1) := by decide +kernel
theorem d_Jb_want_22 : decode b_Jb_want 22 = .ok (.iload 5, 2) := by decide +kernel
theorem d_Jb_want_24 : decode b_Jb_want 24 = .ok (.putfield 28, 3) := by decide +kernel
theorem d_Jb_want_27 : decode b_Jb_want 27 = .ok (.aload_n 0, 1) := by decide +kernel
theorem d_Jb_want_28 : decode b_Jb_want 28 = .ok (.iload 6, 2) := by decide +kernel
theorem d_Jb_want_30 : decode b_Jb_want 30 = .ok (.putfield 31, 3) := by decide +kernel
theorem d_Jb_want_33 : decode b_Jb_want 33 = .ok (.aload_n 0, 1) := by decide +kernel
theorem d_Jb_want_34 : decode b_Jb_want 34 = .ok (.iconst (-1), 1) := by decide +kernel
theorem d_Jb_want_35 : decode b_Jb_want 35 = .ok (.putfield 34, 3) := by decide +kernel
theorem d_Jb_want_38 : decode b_Jb_want 38 = .ok (.aload_n 0, 1) := by decide +kernel
theorem d_Jb_want_39 : decode b_Jb_want 39 = .ok (.iconst 0, 1) := by decide +kernel
theorem d_Jb_want_40 : decode b_Jb_want 40 = .ok (.putfield 37, 3) := by decide +kernel
theorem d_Jb_want_43 : decode b_Jb_want 43 = .ok (.aload_n 0, 1) := by decide +kernel
theorem d_Jb_want_44 : decode b_Jb_want 44 = .ok (.iconst (-1), 1) := by decide +kernel
theorem d_Jb_want_45 : decode b_Jb_want 45 = .ok (.putfield 40, 3) := by decide +kernel
theorem d_Jb_want_48 : decode b_Jb_want 48 = .ok (.aload_n 0, 1) := by decide +kernel
theorem d_Jb_want_49 : decode b_Jb_want 49 = .ok (.iconst (-1), 1) := by decide +kernel
theorem d_Jb_want_50 : decode b_Jb_want 50 = .ok (.putfield 43, 3) := by decide +kernel
theorem d_Jb_want_53 : decode b_Jb_want 53 = .ok (.aload_n 0, 1) := by decide +kernel
theorem d_Jb_want_54 : decode b_Jb_want 54 = .ok (.iconst 0, 1) := by decide +kernel
theorem d_Jb_want_55 : decode b_Jb_want 55 = .ok (.putfield 46, 3) := by decide +kernel
theorem d_Jb_want_58 : decode b_Jb_want 58 = .ok (.aload_n 0, 1) := by decide +kernel
theorem d_Jb_want_59 : decode b_Jb_want 59 = .ok (.iconst 0, 1) := by decide +kernel
theorem d_Jb_want_60 : decode b_Jb_want 60 = .ok (.putfield 49, 3) := by decide +kernel
theorem d_Jb_want_63 : decode b_Jb_want 63 = .ok (.aload_n 0, 1) := by decide +kernel
theorem d_Jb_want_64 : decode b_Jb_want 64 = .ok (.iconst 0, 1) := by decide +kernel
theorem d_Jb_want_65 : decode b_Jb_want 65 = .ok (.putfield 52, 3) := by decide +kernel
theorem d_Jb_want_68 : decode b_Jb_want 68 = .ok (.return_, 1) := by decide +kernel
theorem d_Jb_become_0 : decode b_Jb_become 0 = .ok (.aload_n 0, 1) := by decide +kernel
theorem d_Jb_become_1 : decode b_Jb_become 1 = .ok (.aload_n 1, 1) := by decide +kernel
theorem d_Jb_become_2 : decode b_Jb_become 2 = .ok (.getfield 15, 3) := by decide +kernel
theorem d_Jb_become_5 : decode b_Jb_become 5 = .ok (.putfield 15, 3) := by decide +kernel
theorem d_Jb_become_8 : decode b_Jb_become 8 = .ok (.aload_n 0, 1) := by decide +kernel
theorem d_Jb_become_9 : decode b_Jb_become 9 = .ok (.aload_n 1, 1) := by decide +kernel
theorem d_Jb_become_10 : decode b_Jb_become 10 = .ok (.getfield 19, 3) := by decide +kernel
theorem d_Jb_become_13 : decode b_Jb_become 13 = .ok (.putfield 19, 3) := by decide +kernel
theorem d_Jb_become_16 : decode b_Jb_become 16 = .ok (.aload_n 0, 1) := by decide +kernel
theorem d_Jb_become_17 : decode b_Jb_become 17 = .ok (.aload_n 1, 1) := by decide +kernel
theorem d_Jb_become_18 : decode b_Jb_become 18 = .ok (.getfield 22, 3) := by decide +kernel
theorem d_Jb_become_21 : decode b_Jb_become 21 = .ok (.putfield 22, 3) := by decide +kernel
theorem d_Jb_become_24 : decode b_Jb_become 24 = .ok (.aload_n 0, 1) := by decide +kernel
theorem d_Jb_become_25 : decode b_Jb_become 25 = .ok (.aload_n 1, 1) := by decide +kernel
theorem d_Jb_become_26 : decode b_Jb_become 26 = .ok (.getfield 25, 3) := by decide +kernel
theorem d_Jb_become_29 : decode b_Jb_become 29 = .ok (.putfield 25, 3) := by decide +kernel
theorem d_Jb_become_32 : decode b_Jb_become 32 = .ok (.aload_n 0, 1) := by decide +kernel
theorem d_Jb_become_33 : decode b_Jb_become 33 = .ok (.aload_n 1, 1) := by decide +kernel
theorem d_Jb_become_34 : decode b_Jb_become 34 = .ok (.getfield 28, 3) := by decide +kernel
theorem d_Jb_become_37 : decode b_Jb_become 37 = .ok (.putfield 28, 3) := by decide +kernel
theorem d_Jb_become_40 : decode b_Jb_become 40 = .ok (.aload_n 0, 1) := by decide +kernel
theorem d_Jb_become_41 : decode b_Jb_become 41 = .ok (.aload_n 1, 1) := by decide +kernel
theorem d_Jb_become_42 : decode b_Jb_become 42 = .ok (.getfield 31, 3) := by decide +kernel
theorem d_Jb_become_45 : decode b_Jb_become 45 = .ok (.putfield 31, 3) := by decide +kernel
theorem d_Jb_become_48 : decode b_Jb_become 48 = .ok (.aload_n 0, 1) := by decide +kernel
theorem d_Jb_become_49 : decode b_Jb_become 49 = .ok (.aload_n 1, 1) := by decide +kernel
theorem d_Jb_become_50 : decode b_Jb_become 50 = .ok (.getfield 34, 3) := by decide +kernel
theorem d_Jb_become_53 : decode b_Jb_become 53 = .ok (.putfield 34, 3) := by decide +kernel
theorem d_Jb_become_56 : decode b_Jb_become 56 = .ok (.aload_n 0, 1) := by decide +kernel
theorem d_Jb_become_57 : decode b_Jb_become 57 = .ok (.aload_n 1, 1) := by decide +kernel
theorem d_Jb_become_58 : decode b_Jb_become 58 = .ok (.getfield 37, 3) := by decide +kernel
theorem d_Jb_become_61 : decode b_Jb_become 61 = .ok (.putfield 37, 3) := by decide +kernel
theorem d_Jb_become_64 : decode b_Jb_become 64 = .ok (.aload_n 0, 1) := by decide +kernel
theorem d_Jb_become_65 : decode b_Jb_become 65 = .ok (.aload_n 1, 1) := by decide +kernel
theorem d_Jb_become_66 : decode b_Jb_become 66 = .ok (.getfield 40, 3) := by decide +kernel
theorem d_Jb_become_69 : decode b_Jb_become 69 = .ok (.putfield 40, 3) := by decide +kernel
theorem d_Jb_become_72 : decode b_Jb_become 72 = .ok (.aload_n 0, 1) := by decide +kernel
theorem d_Jb_become_73 : decode b_Jb_become 73 = .ok (.aload_n 1, 1) := by decide +kernel
theorem d_Jb_become_74 : decode b_Jb_become 74 = .ok (.getfield 43, 3) := by decide +kernel
theorem d_Jb_become_77 : decode b_Jb_become 77 = .ok (.putfield 43, 3) := by decide +kernel
theorem d_Jb_become_80 : decode b_Jb_become 80 = .ok (.aload_n 0, 1) := by decide +kernel
theorem d_Jb_become_81 : decode b_Jb_become 81 = .ok (.aload_n 1, 1) := by decide +kernel
theorem d_Jb_become_82 : decode b_Jb_become 82 = .ok (.getfield 46, 3) := by decide +kernel
theorem d_Jb_become_85 : decode b_Jb_become 85 = .ok (.putfield 46, 3) := by decide +kernel
theorem d_Jb_become_88 : decode b_Jb_become 88 = .ok (.aload_n 0, 1) := by decide +kernel
theorem d_Jb_become_89 : decode b_Jb_become 89 = .ok (.aload_n 1, 1) := by decide +kernel
theorem d_Jb_become_90 : decode b_Jb_become 90 = .ok (.getfield 49, 3) := by decide +kernel
theorem d_Jb_become_93 : decode b_Jb_become 93 = .ok (.putfield 49, 3) := by decide +kernel
theorem d_Jb_become_96 : decode b_Jb_become 96 = .ok (.aload_n 0, 1) := by decide +kernel
theorem d_Jb_become_97 : decode b_Jb_become 97 = .ok (.aload_n 1, 1) := by decide +kernel
theorem d_Jb_become_98 : decode b_Jb_become 98 = .ok (.getfield 52, 3) := by decide +kernel
theorem d_Jb_become_101 : decode b_Jb_become 101 = .ok (.putfield 52, 3) := by decide +kernel
theorem d_Jb_become_104 : decode b_Jb_become 104 = .ok (.aload_n 1, 1) := by decide +kernel
theorem d_Jb_become_105 : decode b_Jb_become 105 = .ok (.getfield 9, 3) := by decide +kernel
theorem d_Jb_become_108 : decode b_Jb_become 108 = .ok (.iconst 0, 1) := by decide +kernel
theorem d_Jb_become_109 : decode b_Jb_become 109 = .ok (.aload_n 0, 1) := by decide +kernel
theorem d_Jb_become_110 : decode b_Jb_become 110 = .ok (.getfield 9, 3) := by decide +kernel
theorem d_Jb_become_113 : decode b_Jb_become 113 = .ok (.iconst 0, 1) := by decide +kernel
theorem d_Jb_become_114 : decode b_Jb_become 114 = .ok (.iconst 4, 1) := by decide +kernel
theorem d_Jb_become_115 : decode b_Jb_become 115 = .ok (.invokestatic 55, 3) := by decide +kernel
theorem d_Jb_become_118 : decode b_Jb_become 118 = .ok (.return_, 1) := by decide +kernel
theorem d_Jb_left_0 : decode b_Jb_left 0 = .ok (.aload_n 0, 1) := by decide +kernel
theorem d_Jb_left_1 : decode b_Jb_left 1 = .ok (.getfield 25, 3) := by decide +kernel
theorem d_Jb_left_4 : decode b_Jb_left 4 = .ok (.aload_n 0, 1) := by decide +kernel
theorem d_Jb_left_5 : decode b_Jb_left 5 = .ok (.getfield 46, 3) := by decide +kernel
theorem d_Jb_left_8 : decode b_Jb_left 8 = .ok (.isub, 1) := by decide +kernel
theorem d_Jb_left_9 : decode b_Jb_left 9 = .ok (.ireturn, 1) := by decide +kernel
theorem d_Jb_ranUntil_0 : decode b_Jb_ranUntil 0 = .ok (.aload_n 0, 1) := by decide +kernel
theorem d_Jb_ranUntil_1 : decode b_Jb_ranUntil 1 = .ok (.getfield 37, 3) := by decide +kernel
theorem d_Jb_ranUntil_4 : decode b_Jb_ranUntil 4 = .ok (.iconst 1, 1) := by decide +kernel
theorem d_Jb_ranUntil_5 : decode b_Jb_ranUntil 5 = .ok (.if_icmp .ne (12), 3) := by decide +kernel
theorem d_Jb_ranUntil_8 : decode b_Jb_ranUntil 8 = .ok (.iload_n 1, 1) := by decide +kernel
theorem d_Jb_ranUntil_9 : decode b_Jb_ranUntil 9 = .ok (.aload_n 0, 1) := by decide +kernel
theorem d_Jb_ranUntil_10 : decode b_Jb_ranUntil 10 = .ok (.getfield 40, 3) := by decide +kernel
theorem d_Jb_ranUntil_13 : decode b_Jb_ranUntil 13 = .ok (.isub, 1) := by decide +kernel
theorem d_Jb_ranUntil_14 : decode b_Jb_ranUntil 14 = .ok (.goto (4), 3) := by decide +kernel
theorem d_Jb_ranUntil_17 : decode b_Jb_ranUntil 17 = .ok (.iconst 0, 1) := by decide +kernel
theorem d_Jb_ranUntil_18 : decode b_Jb_ranUntil 18 = .ok (.ireturn, 1) := by decide +kernel
theorem d_Jb_keepWhatWasSaved_0 : decode b_Jb_keepWhatWasSaved 0 = .ok (.aload_n 0, 1) := by decide +kernel
theorem d_Jb_keepWhatWasSaved_1 : decode b_Jb_keepWhatWasSaved 1 = .ok (.getfield 31, 3) := by decide +kernel
theorem d_Jb_keepWhatWasSaved_4 : decode b_Jb_keepWhatWasSaved 4 = .ok (.ifCond .le (26), 3) := by decide +kernel
theorem d_Jb_keepWhatWasSaved_7 : decode b_Jb_keepWhatWasSaved 7 = .ok (.aload_n 0, 1) := by decide +kernel
theorem d_Jb_keepWhatWasSaved_8 : decode b_Jb_keepWhatWasSaved 8 = .ok (.iload_n 1, 1) := by decide +kernel
theorem d_Jb_keepWhatWasSaved_9 : decode b_Jb_keepWhatWasSaved 9 = .ok (.invokevirtual 61, 3) := by decide +kernel
theorem d_Jb_keepWhatWasSaved_12 : decode b_Jb_keepWhatWasSaved 12 = .ok (.istore_n 2, 1) := by decide +kernel
theorem d_Jb_keepWhatWasSaved_13 : decode b_Jb_keepWhatWasSaved 13 = .ok (.aload_n 0, 1) := by decide +kernel
theorem d_Jb_keepWhatWasSaved_14 : decode b_Jb_keepWhatWasSaved 14 = .ok (.dup, 1) := by decide +kernel
theorem d_Jb_keepWhatWasSaved_15 : decode b_Jb_keepWhatWasSaved 15 = .ok (.getfield 46, 3) := by decide +kernel
theorem d_Jb_keepWhatWasSaved_18 : decode b_Jb_keepWhatWasSaved 18 = .ok (.iload_n 2, 1) := by decide +kernel
theorem d_Jb_keepWhatWasSaved_19 : decode b_Jb_keepWhatWasSaved 19 = .ok (.iload_n 2, 1) := by decide +kernel
theorem d_Jb_keepWhatWasSaved_20 : decode b_Jb_keepWhatWasSaved 20 = .ok (.aload_n 0, 1) := by decide +kernel
theorem d_Jb_keepWhatWasSaved_21 : decode b_Jb_keepWhatWasSaved 21 = .ok (.getfield 31, 3) := by decide +kernel
theorem d_Jb_keepWhatWasSaved_24 : decode b_Jb_keepWhatWasSaved 24 = .ok (.irem, 1) := by decide +kernel
theorem d_Jb_keepWhatWasSaved_25 : decode b_Jb_keepWhatWasSaved 25 = .ok (.isub, 1) := by decide +kernel
theorem d_Jb_keepWhatWasSaved_26 : decode b_Jb_keepWhatWasSaved 26 = .ok (.iadd, 1) := by decide +kernel
theorem d_Jb_keepWhatWasSaved_27 : decode b_Jb_keepWhatWasSaved 27 = .ok (.putfield 46, 3) := by decide +kernel
theorem d_Jb_keepWhatWasSaved_30 : decode b_Jb_keepWhatWasSaved 30 = .ok (.return_, 1) := by decide +kernel
theorem d_Jb_racksHeld_0 : decode b_Jb_racksHeld 0 = .ok (.iconst 0, 1) := by decide +kernel
theorem d_Jb_racksHeld_1 : decode b_Jb_racksHeld 1 = .ok (.istore_n 1, 1) := by decide +kernel
theorem d_Jb_racksHeld_2 : decode b_Jb_racksHeld 2 = .ok (.iconst 0, 1) := by decide +kernel
theorem d_Jb_racksHeld_3 : decode b_Jb_racksHeld 3 = .ok (.istore_n 2, 1) := by decide +kernel
theorem d_Jb_racksHeld_4 : decode b_Jb_racksHeld 4 = .ok (.iload_n 2, 1) := by decide +kernel
theorem d_Jb_racksHeld_5 : decode b_Jb_racksHeld 5 = .ok (.iconst 4, 1) := by decide +kernel
theorem d_Jb_racksHeld_6 : decode b_Jb_racksHeld 6 = .ok (.if_icmp .ge (21), 3) := by decide +kernel
theorem d_Jb_racksHeld_9 : decode b_Jb_racksHeld 9 = .ok (.aload_n 0, 1) := by decide +kernel
theorem d_Jb_racksHeld_10 : decode b_Jb_racksHeld 10 = .ok (.getfield 9, 3) := by decide +kernel
theorem d_Jb_racksHeld_13 : decode b_Jb_racksHeld 13 = .ok (.iload_n 2, 1) := by decide +kernel
theorem d_Jb_racksHeld_14 : decode b_Jb_racksHeld 14 = .ok (.iaload, 1) := by decide +kernel
theorem d_Jb_racksHeld_15 : decode b_Jb_racksHeld 15 = .ok (.ifCond .le (6), 3) := by decide +kernel
theorem d_Jb_racksHeld_18 : decode b_Jb_racksHeld 18 = .ok (.iinc 1 (1), 3) := by decide +kernel
theorem d_Jb_racksHeld_21 : decode b_Jb_racksHeld 21 = .ok (.iinc 2 (1), 3) := by decide +kernel
theorem d_Jb_racksHeld_24 : decode b_Jb_racksHeld 24 = .ok (.goto (-20), 3) := by decide +kernel
theorem d_Jb_racksHeld_27 : decode b_Jb_racksHeld 27 = .ok (.iload_n 1, 1) := by decide +kernel
theorem d_Jb_racksHeld_28 : decode b_Jb_racksHeld 28 = .ok (.ireturn, 1) := by decide +kernel
theorem d_Rk_init_0 : decode b_Rk_init 0 = .ok (.aload_n 0, 1) := by decide +kernel
theorem d_Rk_init_1 : decode b_Rk_init 1 = .ok (.invokespecial 1, 3) := by decide +kernel
theorem d_Rk_init_4 : decode b_Rk_init 4 = .ok (.return_, 1) := by decide +kernel
theorem d_Rk_become_0 : decode b_Rk_become 0 = .ok (.aload_n 0, 1) := by decide +kernel
theorem d_Rk_become_1 : decode b_Rk_become 1 = .ok (.aload_n 1, 1) := by decide +kernel
theorem d_Rk_become_2 : decode b_Rk_become 2 = .ok (.getfield 7, 3) := by decide +kernel
theorem d_Rk_become_5 : decode b_Rk_become 5 = .ok (.putfield 7, 3) := by decide +kernel
theorem d_Rk_become_8 : decode b_Rk_become 8 = .ok (.aload_n 0, 1) := by decide +kernel
theorem d_Rk_become_9 : decode b_Rk_become 9 = .ok (.aload_n 1, 1) := by decide +kernel
theorem d_Rk_become_10 : decode b_Rk_become 10 = .ok (.getfield 13, 3) := by decide +kernel
theorem d_Rk_become_13 : decode b_Rk_become 13 = .ok (.putfield 13, 3) := by decide +kernel
theorem d_Rk_become_16 : decode b_Rk_become 16 = .ok (.aload_n 0, 1) := by decide +kernel
theorem d_Rk_become_17 : decode b_Rk_become 17 = .ok (.aload_n 1, 1) := by decide +kernel
theorem d_Rk_become_18 : decode b_Rk_become 18 = .ok (.getfield 16, 3) := by decide +kernel
theorem d_Rk_become_21 : decode b_Rk_become 21 = .ok (.putfield 16, 3) := by decide +kernel
theorem d_Rk_become_24 : decode b_Rk_become 24 = .ok (.return_, 1) := by decide +kernel
theorem d_In_bitCount_0 : decode b_In_bitCount 0 = .ok (.iload_n 0, 1) := by decide +kernel
theorem d_In_bitCount_1 : decode b_In_bitCount 1 = .ok (.iload_n 0, 1) := by decide +kernel
theorem d_In_bitCount_2 : decode b_In_bitCount 2 = .ok (.iconst 1, 1) := by decide +kernel
theorem d_In_bitCount_3 : decode b_In_bitCount 3 = .ok (.iushr, 1) := by decide +kernel
theorem d_In_bitCount_4 : decode b_In_bitCount 4 = .ok (.ldc_w 265, 3) := by decide +kernel
theorem d_In_bitCount_7 : decode b_In_bitCount 7 = .ok (.iand, 1) := by decide +kernel
theorem d_In_bitCount_8 : decode b_In_bitCount 8 = .ok (.isub, 1) := by decide +kernel
theorem d_In_bitCount_9 : decode b_In_bitCount 9 = .ok (.istore_n 0, 1) := by decide +kernel
theorem d_In_bitCount_10 : decode b_In_bitCount 10 = .ok (.iload_n 0, 1) := by decide +kernel
theorem d_In_bitCount_11 : decode b_In_bitCount 11 = .ok (.ldc_w 266, 3) := by decide +kernel
theorem d_In_bitCount_14 : decode b_In_bitCount 14 = .ok (.iand, 1) := by decide +kernel
theorem d_In_bitCount_15 : decode b_In_bitCount 15 = .ok (.iload_n 0, 1) := by decide +kernel
theorem d_In_bitCount_16 : decode b_In_bitCount 16 = .ok (.iconst 2, 1) := by decide +kernel
theorem d_In_bitCount_17 : decode b_In_bitCount 17 = .ok (.iushr, 1) := by decide +kernel
theorem d_In_bitCount_18 : decode b_In_bitCount 18 = .ok (.ldc_w 266, 3) := by decide +kernel
theorem d_In_bitCount_21 : decode b_In_bitCount 21 = .ok (.iand, 1) := by decide +kernel
theorem d_In_bitCount_22 : decode b_In_bitCount 22 = .ok (.iadd, 1) := by decide +kernel
theorem d_In_bitCount_23 : decode b_In_bitCount 23 = .ok (.istore_n 0, 1) := by decide +kernel
theorem d_In_bitCount_24 : decode b_In_bitCount 24 = .ok (.iload_n 0, 1) := by decide +kernel
theorem d_In_bitCount_25 : decode b_In_bitCount 25 = .ok (.iload_n 0, 1) := by decide +kernel
theorem d_In_bitCount_26 : decode b_In_bitCount 26 = .ok (.iconst 4, 1) := by decide +kernel
theorem d_In_bitCount_27 : decode b_In_bitCount 27 = .ok (.iushr, 1) := by decide +kernel
theorem d_In_bitCount_28 : decode b_In_bitCount 28 = .ok (.iadd, 1) := by decide +kernel
theorem d_In_bitCount_29 : decode b_In_bitCount 29 = .ok (.ldc_w 267, 3) := by decide +kernel
theorem d_In_bitCount_32 : decode b_In_bitCount 32 = .ok (.iand, 1) := by decide +kernel
theorem d_In_bitCount_33 : decode b_In_bitCount 33 = .ok (.istore_n 0, 1) := by decide +kernel
theorem d_In_bitCount_34 : decode b_In_bitCount 34 = .ok (.iload_n 0, 1) := by decide +kernel
theorem d_In_bitCount_35 : decode b_In_bitCount 35 = .ok (.iload_n 0, 1) := by decide +kernel
theorem d_In_bitCount_36 : decode b_In_bitCount 36 = .ok (.bipush (8), 2) := by decide +kernel
theorem d_In_bitCount_38 : decode b_In_bitCount 38 = .ok (.iushr, 1) := by decide +kernel
theorem d_In_bitCount_39 : decode b_In_bitCount 39 = .ok (.iadd, 1) := by decide +kernel
theorem d_In_bitCount_40 : decode b_In_bitCount 40 = .ok (.istore_n 0, 1) := by decide +kernel
theorem d_In_bitCount_41 : decode b_In_bitCount 41 = .ok (.iload_n 0, 1) := by decide +kernel
theorem d_In_bitCount_42 : decode b_In_bitCount 42 = .ok (.iload_n 0, 1) := by decide +kernel
theorem d_In_bitCount_43 : decode b_In_bitCount 43 = .ok (.bipush (16), 2) := by decide +kernel
theorem d_In_bitCount_45 : decode b_In_bitCount 45 = .ok (.iushr, 1) := by decide +kernel
theorem d_In_bitCount_46 : decode b_In_bitCount 46 = .ok (.iadd, 1) := by decide +kernel
theorem d_In_bitCount_47 : decode b_In_bitCount 47 = .ok (.istore_n 0, 1) := by decide +kernel
theorem d_In_bitCount_48 : decode b_In_bitCount 48 = .ok (.iload_n 0, 1) := by decide +kernel
theorem d_In_bitCount_49 : decode b_In_bitCount 49 = .ok (.bipush (63), 2) := by decide +kernel
theorem d_In_bitCount_51 : decode b_In_bitCount 51 = .ok (.iand, 1) := by decide +kernel
theorem d_In_bitCount_52 : decode b_In_bitCount 52 = .ok (.ireturn, 1) := by decide +kernel
