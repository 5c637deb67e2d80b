theorem d_Me_init_0 : decode b_Me_init 0 = .ok (.aload_n 0, 1) := by decide +kernel
theorem d_Me_init_1 : decode b_Me_init 1 = .ok (.invokespecial 3, 3) := by decide +kernel
theorem d_Me_init_4 : decode b_Me_init 4 = .ok (.aload_n 0, 1) := by decide +kernel
theorem d_Me_init_5 : decode b_Me_init 5 = .ok (.bipush (8), 2) := by decide +kernel
theorem d_Me_init_7 : decode b_Me_init 7 = .ok (.newarray .int, 2) := by decide +kernel
theorem d_Me_init_9 : decode b_Me_init 9 = .ok (.putfield 9, 3) := by decide +kernel
theorem d_Me_init_12 : decode b_Me_init 12 = .ok (.aload_n 0, 1) := by decide +kernel
theorem d_Me_init_13 : decode b_Me_init 13 = .ok (.bipush (8), 2) := by decide +kernel
theorem d_Me_init_15 : decode b_Me_init 15 = .ok (.newarray .int, 2) := by decide +kernel
theorem d_Me_init_17 : decode b_Me_init 17 = .ok (.putfield 15, 3) := by decide +kernel
theorem d_Me_init_20 : decode b_Me_init 20 = .ok (.aload_n 0, 1) := by decide +kernel
theorem d_Me_init_21 : decode b_Me_init 21 = .ok (.bipush (8), 2) := by decide +kernel
theorem d_Me_init_23 : decode b_Me_init 23 = .ok (.newarray .int, 2) := by decide +kernel
theorem d_Me_init_25 : decode b_Me_init 25 = .ok (.putfield 18, 3) := by decide +kernel
theorem d_Me_init_28 : decode b_Me_init 28 = .ok (.aload_n 0, 1) := by decide +kernel
theorem d_Me_init_29 : decode b_Me_init 29 = .ok (.bipush (8), 2) := by decide +kernel
theorem d_Me_init_31 : decode b_Me_init 31 = .ok (.newarray .int, 2) := by decide +kernel
theorem d_Me_init_33 : decode b_Me_init 33 = .ok (.putfield 21, 3) := by decide +kernel
theorem d_Me_init_36 : decode b_Me_init 36 = .ok (.aload_n 0, 1) := by decide +kernel
theorem d_Me_init_37 : decode b_Me_init 37 = .ok (.bipush (8), 2) := by decide +kernel
theorem d_Me_init_39 : decode b_Me_init 39 = .ok (.anewarray 24, 3) := by decide +kernel
theorem d_Me_init_42 : decode b_Me_init 42 = .ok (.putfield 26, 3) := by decide +kernel
theorem d_Me_init_45 : decode b_Me_init 45 = .ok (.aload_n 0, 1) := by decide +kernel
theorem d_Me_init_46 : decode b_Me_init 46 = .ok (.new 30, 3) := by decide +kernel
theorem d_Me_init_49 : decode b_Me_init 49 = .ok (.dup, 1) := by decide +kernel
theorem d_Me_init_50 : decode b_Me_init 50 = .ok (.invokespecial 32, 3) := by decide +kernel
theorem d_Me_init_53 : decode b_Me_init 53 = .ok (.putfield 33, 3) := by decide +kernel
theorem d_Me_init_56 : decode b_Me_init 56 = .ok (.aload_n 0, 1) := by decide +kernel
theorem d_Me_init_57 : decode b_Me_init 57 = .ok (.getfield 15, 3) := by decide +kernel
theorem d_Me_init_60 : decode b_Me_init 60 = .ok (.iconst (-1), 1) := by decide +kernel
theorem d_Me_init_61 : decode b_Me_init 61 = .ok (.invokestatic 37, 3) := by decide +kernel
theorem d_Me_init_64 : decode b_Me_init 64 = .ok (.aload_n 0, 1) := by decide +kernel
theorem d_Me_init_65 : decode b_Me_init 65 = .ok (.getfield 18, 3) := by decide +kernel
theorem d_Me_init_68 : decode b_Me_init 68 = .ok (.iconst (-1), 1) := by decide +kernel
theorem d_Me_init_69 : decode b_Me_init 69 = .ok (.invokestatic 37, 3) := by decide +kernel
theorem d_Me_init_72 : decode b_Me_init 72 = .ok (.aload_n 0, 1) := by decide +kernel
theorem d_Me_init_73 : decode b_Me_init 73 = .ok (.getfield 21, 3) := by decide +kernel
theorem d_Me_init_76 : decode b_Me_init 76 = .ok (.iconst (-1), 1) := by decide +kernel
theorem d_Me_init_77 : decode b_Me_init 77 = .ok (.invokestatic 37, 3) := by decide +kernel
theorem d_Me_init_80 : decode b_Me_init 80 = .ok (.iconst (0), 1) := by decide +kernel
theorem d_Me_init_81 : decode b_Me_init 81 = .ok (.istore_n 1, 1) := by decide +kernel
theorem d_Me_init_82 : decode b_Me_init 82 = .ok (.iload_n 1, 1) := by decide +kernel
theorem d_Me_init_83 : decode b_Me_init 83 = .ok (.bipush (8), 2) := by decide +kernel
theorem d_Me_init_85 : decode b_Me_init 85 = .ok (.if_icmp .ge (22), 3) := by decide +kernel
theorem d_Me_init_88 : decode b_Me_init 88 = .ok (.aload_n 0, 1) := by decide +kernel
theorem d_Me_init_89 : decode b_Me_init 89 = .ok (.getfield 26, 3) := by decide +kernel
theorem d_Me_init_92 : decode b_Me_init 92 = .ok (.iload_n 1, 1) := by decide +kernel
theorem d_Me_init_93 : decode b_Me_init 93 = .ok (.new 24, 3) := by decide +kernel
theorem d_Me_init_96 : decode b_Me_init 96 = .ok (.dup, 1) := by decide +kernel
theorem d_Me_init_97 : decode b_Me_init 97 = .ok (.invokespecial 43, 3) := by decide +kernel
theorem d_Me_init_100 : decode b_Me_init 100 = .ok (.aastore, 1) := by decide +kernel
theorem d_Me_init_101 : decode b_Me_init 101 = .ok (.iinc 1 (1), 3) := by decide +kernel
theorem d_Me_init_104 : decode b_Me_init 104 = .ok (.goto (-22), 3) := by decide +kernel
theorem d_Me_init_107 : decode b_Me_init 107 = .ok (.return_, 1) := by decide +kernel
theorem d_Me_copyFrom_0 : decode b_Me_copyFrom 0 = .ok (.aload_n 1, 1) := by decide +kernel
theorem d_Me_copyFrom_1 : decode b_Me_copyFrom 1 = .ok (.getfield 9, 3) := by decide +kernel
theorem d_Me_copyFrom_4 : decode b_Me_copyFrom 4 = .ok (.iconst (0), 1) := by decide +kernel
theorem d_Me_copyFrom_5 : decode b_Me_copyFrom 5 = .ok (.aload_n 0, 1) := by decide +kernel
theorem d_Me_copyFrom_6 : decode b_Me_copyFrom 6 = .ok (.getfield 9, 3) := by decide +kernel
theorem d_Me_copyFrom_9 : decode b_Me_copyFrom 9 = .ok (.iconst (0), 1) := by decide +kernel
theorem d_Me_copyFrom_10 : decode b_Me_copyFrom 10 = .ok (.bipush (8), 2) := by decide +kernel
theorem d_Me_copyFrom_12 : decode b_Me_copyFrom 12 = .ok (.invokestatic 44, 3) := by decide +kernel
theorem d_Me_copyFrom_15 : decode b_Me_copyFrom 15 = .ok (.aload_n 1, 1) := by decide +kernel
theorem d_Me_copyFrom_16 : decode b_Me_copyFrom 16 = .ok (.getfield 15, 3) := by decide +kernel
theorem d_Me_copyFrom_19 : decode b_Me_copyFrom 19 = .ok (.iconst (0), 1) := by decide +kernel
theorem d_Me_copyFrom_20 : decode b_Me_copyFrom 20 = .ok (.aload_n 0, 1) := by decide +kernel
theorem d_Me_copyFrom_21 : decode b_Me_copyFrom 21 = .ok (.getfield 15, 3) := by decide +kernel
theorem d_Me_copyFrom_24 : decode b_Me_copyFrom 24 = .ok (.iconst (0), 1) := by decide +kernel
theorem d_Me_copyFrom_25 : decode b_Me_copyFrom 25 = .ok (.bipush (8), 2) := by decide +kernel
theorem d_Me_copyFrom_27 : decode b_Me_copyFrom 27 = .ok (.invokestatic 44, 3) := by decide +kernel
theorem d_Me_copyFrom_30 : decode b_Me_copyFrom 30 = .ok (.aload_n 1, 1) := by decide +kernel
theorem d_Me_copyFrom_31 : decode b_Me_copyFrom 31 = .ok (.getfield 18, 3) := by decide +kernel
theorem d_Me_copyFrom_34 : decode b_Me_copyFrom 34 = .ok (.iconst (0), 1) := by decide +kernel
theorem d_Me_copyFrom_35 : decode b_Me_copyFrom 35 = .ok (.aload_n 0, 1) := by decide +kernel
theorem d_Me_copyFrom_36 : decode b_Me_copyFrom 36 = .ok (.getfield 18, 3) := by decide +kernel
theorem d_Me_copyFrom_39 : decode b_Me_copyFrom 39 = .ok (.iconst (0), 1) := by decide +kernel
theorem d_Me_copyFrom_40 : decode b_Me_copyFrom 40 = .ok (.bipush (8), 2) := by decide +kernel
theorem d_Me_copyFrom_42 : decode b_Me_copyFrom 42 = .ok (.invokestatic 44, 3) := by decide +kernel
theorem d_Me_copyFrom_45 : decode b_Me_copyFrom 45 = .ok (.aload_n 1, 1) := by decide +kernel
theorem d_Me_copyFrom_46 : decode b_Me_copyFrom 46 = .ok (.getfield 21, 3) := by decide +kernel
theorem d_Me_copyFrom_49 : decode b_Me_copyFrom 49 = .ok (.iconst (0), 1) := by decide +kernel
theorem d_Me_copyFrom_50 : decode b_Me_copyFrom 50 = .ok (.aload_n 0, 1) := by decide +kernel
theorem d_Me_copyFrom_51 : decode b_Me_copyFrom 51 = .ok (.getfield 21, 3) := by decide +kernel
theorem d_Me_copyFrom_54 : decode b_Me_copyFrom 54 = .ok (.iconst (0), 1) := by decide +kernel
theorem d_Me_copyFrom_55 : decode b_Me_copyFrom 55 = .ok (.bipush (8), 2) := by decide +kernel
theorem d_Me_copyFrom_57 : decode b_Me_copyFrom 57 = .ok (.invokestatic 44, 3) := by decide +kernel
theorem d_Me_copyFrom_60 : decode b_Me_copyFrom 60 = .ok (.aload_n 0, 1) := by decide +kernel
theorem d_Me_copyFrom_61 : decode b_Me_copyFrom 61 = .ok (.getfield 33, 3) := by decide +kernel
theorem d_Me_copyFrom_64 : decode b_Me_copyFrom 64 = .ok (.aload_n 1, 1) := by decide +kernel
theorem d_Me_copyFrom_65 : decode b_Me_copyFrom 65 = .ok (.getfield 33, 3) := by decide +kernel
theorem d_Me_copyFrom_68 : decode b_Me_copyFrom 68 = .ok (.invokevirtual 50, 3) := by decide +kernel
theorem d_Me_copyFrom_71 : decode b_Me_copyFrom 71 = .ok (.iconst (0), 1) := by decide +kernel
theorem d_Me_copyFrom_72 : decode b_Me_copyFrom 72 = .ok (.istore_n 2, 1) := by decide +kernel
theorem d_Me_copyFrom_73 : decode b_Me_copyFrom 73 = .ok (.iload_n 2, 1) := by decide +kernel
theorem d_Me_copyFrom_74 : decode b_Me_copyFrom 74 = .ok (.bipush (8), 2) := by decide +kernel
theorem d_Me_copyFrom_76 : decode b_Me_copyFrom 76 = .ok (.if_icmp .ge (33), 3) := by decide +kernel
theorem d_Me_copyFrom_79 : decode b_Me_copyFrom 79 = .ok (.aload_n 0, 1) := by decide +kernel
theorem d_Me_copyFrom_80 : decode b_Me_copyFrom 80 = .ok (.getfield 9, 3) := by decide +kernel
theorem d_Me_copyFrom_83 : decode b_Me_copyFrom 83 = .ok (.iload_n 2, 1) := by decide +kernel
theorem d_Me_copyFrom_84 : decode b_Me_copyFrom 84 = .ok (.iaload, 1) := by decide +kernel
theorem d_Me_copyFrom_85 : decode b_Me_copyFrom 85 = .ok (.ifCond .eq (18), 3) := by decide +kernel
theorem d_Me_copyFrom_88 : decode b_Me_copyFrom 88 = .ok (.aload_n 0, 1) := by decide +kernel
theorem d_Me_copyFrom_89 : decode b_Me_copyFrom 89 = .ok (.getfield 26, 3) := by decide +kernel
theorem d_Me_copyFrom_92 : decode b_Me_copyFrom 92 = .ok (.iload_n 2, 1) := by decide +kernel
theorem d_Me_copyFrom_93 : decode b_Me_copyFrom 93 = .ok (.aaload, 1) := by decide +kernel
theorem d_Me_copyFrom_94 : decode b_Me_copyFrom 94 = .ok (.aload_n 1, 1) := by decide +kernel
theorem d_Me_copyFrom_95 : decode b_Me_copyFrom 95 = .ok (.getfield 26, 3) := by decide +kernel
theorem d_Me_copyFrom_98 : decode b_Me_copyFrom 98 = .ok (.iload_n 2, 1) := by decide +kernel
theorem d_Me_copyFrom_99 : decode b_Me_copyFrom 99 = .ok (.aaload, 1) := by decide +kernel
theorem d_Me_copyFrom_100 : decode b_Me_copyFrom 100 = .ok (.invokevirtual 54, 3) := by decide +kernel
theorem d_Me_copyFrom_103 : decode b_Me_copyFrom 103 = .ok (.iinc 2 (1), 3) := by decide +kernel
theorem d_Me_copyFrom_106 : decode b_Me_copyFrom 106 = .ok (.goto (-33), 3) := by decide +kernel
theorem d_Me_copyFrom_109 : decode b_Me_copyFrom 109 = .ok (.return_, 1) := by decide +kernel
theorem d_Me_settle_0 : decode b_Me_settle 0 = .ok (.aload_n 0, 1) := by decide +kernel
theorem d_Me_settle_1 : decode b_Me_settle 1 = .ok (.getfield 9, 3) := by decide +kernel
theorem d_Me_settle_4 : decode b_Me_settle 4 = .ok (.iload_n 1, 1) := by decide +kernel
theorem d_Me_settle_5 : decode b_Me_settle 5 = .ok (.iconst (1), 1) := by decide +kernel
theorem d_Me_settle_6 : decode b_Me_settle 6 = .ok (.iastore, 1) := by decide +kernel
theorem d_Me_settle_7 : decode b_Me_settle 7 = .ok (.aload_n 0, 1) := by decide +kernel
theorem d_Me_settle_8 : decode b_Me_settle 8 = .ok (.getfield 15, 3) := by decide +kernel
theorem d_Me_settle_11 : decode b_Me_settle 11 = .ok (.iload_n 1, 1) := by decide +kernel
theorem d_Me_settle_12 : decode b_Me_settle 12 = .ok (.aload_n 0, 1) := by decide +kernel
theorem d_Me_settle_13 : decode b_Me_settle 13 = .ok (.getfield 15, 3) := by decide +kernel
theorem d_Me_settle_16 : decode b_Me_settle 16 = .ok (.iload_n 1, 1) := by decide +kernel
theorem d_Me_settle_17 : decode b_Me_settle 17 = .ok (.iaload, 1) := by decide +kernel
theorem d_Me_settle_18 : decode b_Me_settle 18 = .ok (.iload_n 2, 1) := by decide +kernel
theorem d_Me_settle_19 : decode b_Me_settle 19 = .ok (.invokestatic 57, 3) := by decide +kernel
theorem d_Me_settle_22 : decode b_Me_settle 22 = .ok (.iastore, 1) := by decide +kernel
theorem d_Me_settle_23 : decode b_Me_settle 23 = .ok (.return_, 1) := by decide +kernel
theorem d_Me_grant_0 : decode b_Me_grant 0 = .ok (.iload_n 2, 1) := by decide +kernel
theorem d_Me_grant_1 : decode b_Me_grant 1 = .ok (.tableswitch (124) (1) (5) #[35, 58, 75, 104, 114], 35) := by decide +kernel
theorem d_Me_grant_36 : decode b_Me_grant 36 = .ok (.aload_n 0, 1) := by decide +kernel
theorem d_Me_grant_37 : decode b_Me_grant 37 = .ok (.getfield 33, 3) := by decide +kernel
theorem d_Me_grant_40 : decode b_Me_grant 40 = .ok (.iload_n 1, 1) := by decide +kernel
theorem d_Me_grant_41 : decode b_Me_grant 41 = .ok (.aload_n 0, 1) := by decide +kernel
theorem d_Me_grant_42 : decode b_Me_grant 42 = .ok (.getfield 26, 3) := by decide +kernel
theorem d_Me_grant_45 : decode b_Me_grant 45 = .ok (.iload_n 1, 1) := by decide +kernel
theorem d_Me_grant_46 : decode b_Me_grant 46 = .ok (.aaload, 1) := by decide +kernel
theorem d_Me_grant_47 : decode b_Me_grant 47 = .ok (.getfield 63, 3) := by decide +kernel
theorem d_Me_grant_50 : decode b_Me_grant 50 = .ok (.iconst (1), 1) := by decide +kernel
theorem d_Me_grant_51 : decode b_Me_grant 51 = .ok (.isub, 1) := by decide +kernel
theorem d_Me_grant_52 : decode b_Me_grant 52 = .ok (.iload_n 3, 1) := by decide +kernel
theorem d_Me_grant_53 : decode b_Me_grant 53 = .ok (.invokevirtual 67, 3) := by decide +kernel
theorem d_Me_grant_56 : decode b_Me_grant 56 = .ok (.goto (69), 3) := by decide +kernel
theorem d_Me_grant_59 : decode b_Me_grant 59 = .ok (.aload_n 0, 1) := by decide +kernel
theorem d_Me_grant_60 : decode b_Me_grant 60 = .ok (.getfield 9, 3) := by decide +kernel
theorem d_Me_grant_63 : decode b_Me_grant 63 = .ok (.iload_n 1, 1) := by decide +kernel
theorem d_Me_grant_64 : decode b_Me_grant 64 = .ok (.iconst (2), 1) := by decide +kernel
theorem d_Me_grant_65 : decode b_Me_grant 65 = .ok (.iastore, 1) := by decide +kernel
theorem d_Me_grant_66 : decode b_Me_grant 66 = .ok (.aload_n 0, 1) := by decide +kernel
theorem d_Me_grant_67 : decode b_Me_grant 67 = .ok (.getfield 21, 3) := by decide +kernel
theorem d_Me_grant_70 : decode b_Me_grant 70 = .ok (.iload_n 1, 1) := by decide +kernel
theorem d_Me_grant_71 : decode b_Me_grant 71 = .ok (.iload_n 3, 1) := by decide +kernel
theorem d_Me_grant_72 : decode b_Me_grant 72 = .ok (.iastore, 1) := by decide +kernel
theorem d_Me_grant_73 : decode b_Me_grant 73 = .ok (.goto (52), 3) := by decide +kernel
theorem d_Me_grant_76 : decode b_Me_grant 76 = .ok (.aload_n 0, 1) := by decide +kernel
theorem d_Me_grant_77 : decode b_Me_grant 77 = .ok (.getfield 26, 3) := by decide +kernel
theorem d_Me_grant_80 : decode b_Me_grant 80 = .ok (.iload_n 1, 1) := by decide +kernel
theorem d_Me_grant_81 : decode b_Me_grant 81 = .ok (.iconst (4), 1) := by decide +kernel
theorem d_Me_grant_82 : decode b_Me_grant 82 = .ok (.iadd, 1) := by decide +kernel
theorem d_Me_grant_83 : decode b_Me_grant 83 = .ok (.aaload, 1) := by decide +kernel
theorem d_Me_grant_84 : decode b_Me_grant 84 = .ok (.aload_n 0, 1) := by decide +kernel
theorem d_Me_grant_85 : decode b_Me_grant 85 = .ok (.getfield 26, 3) := by decide +kernel
theorem d_Me_grant_88 : decode b_Me_grant 88 = .ok (.iload_n 1, 1) := by decide +kernel
theorem d_Me_grant_89 : decode b_Me_grant 89 = .ok (.aaload, 1) := by decide +kernel
theorem d_Me_grant_90 : decode b_Me_grant 90 = .ok (.iload_n 3, 1) := by decide +kernel
theorem d_Me_grant_91 : decode b_Me_grant 91 = .ok (.invokevirtual 71, 3) := by decide +kernel
theorem d_Me_grant_94 : decode b_Me_grant 94 = .ok (.aload_n 0, 1) := by decide +kernel
theorem d_Me_grant_95 : decode b_Me_grant 95 = .ok (.iload_n 1, 1) := by decide +kernel
theorem d_Me_grant_96 : decode b_Me_grant 96 = .ok (.iconst (4), 1) := by decide +kernel
theorem d_Me_grant_97 : decode b_Me_grant 97 = .ok (.iadd, 1) := by decide +kernel
theorem d_Me_grant_98 : decode b_Me_grant 98 = .ok (.iconst (0), 1) := by decide +kernel
theorem d_Me_grant_99 : decode b_Me_grant 99 = .ok (.invokevirtual 75, 3) := by decide +kernel
theorem d_Me_grant_102 : decode b_Me_grant 102 = .ok (.goto (23), 3) := by decide +kernel
theorem d_Me_grant_105 : decode b_Me_grant 105 = .ok (.aload_n 0, 1) := by decide +kernel
theorem d_Me_grant_106 : decode b_Me_grant 106 = .ok (.getfield 9, 3) := by decide +kernel
theorem d_Me_grant_109 : decode b_Me_grant 109 = .ok (.iload_n 1, 1) := by decide +kernel
theorem d_Me_grant_110 : decode b_Me_grant 110 = .ok (.iconst (3), 1) := by decide +kernel
theorem d_Me_grant_111 : decode b_Me_grant 111 = .ok (.iastore, 1) := by decide +kernel
theorem d_Me_grant_112 : decode b_Me_grant 112 = .ok (.goto (13), 3) := by decide +kernel
theorem d_Me_grant_115 : decode b_Me_grant 115 = .ok (.aload_n 0, 1) := by decide +kernel
theorem d_Me_grant_116 : decode b_Me_grant 116 = .ok (.getfield 9, 3) := by decide +kernel
theorem d_Me_grant_119 : decode b_Me_grant 119 = .ok (.iload_n 1, 1) := by decide +kernel
theorem d_Me_grant_120 : decode b_Me_grant 120 = .ok (.iconst (4), 1) := by decide +kernel
theorem d_Me_grant_121 : decode b_Me_grant 121 = .ok (.iastore, 1) := by decide +kernel
theorem d_Me_grant_122 : decode b_Me_grant 122 = .ok (.goto (3), 3) := by decide +kernel
theorem d_Me_grant_125 : decode b_Me_grant 125 = .ok (.return_, 1) := by decide +kernel
theorem d_Me_running_0 : decode b_Me_running 0 = .ok (.iconst (0), 1) := by decide +kernel
theorem d_Me_running_1 : decode b_Me_running 1 = .ok (.istore_n 1, 1) := by decide +kernel
theorem d_Me_running_2 : decode b_Me_running 2 = .ok (.iconst (0), 1) := by decide +kernel
theorem d_Me_running_3 : decode b_Me_running 3 = .ok (.istore_n 2, 1) := by decide +kernel
theorem d_Me_running_4 : decode b_Me_running 4 = .ok (.iload_n 2, 1) := by decide +kernel
theorem d_Me_running_5 : decode b_Me_running 5 = .ok (.bipush (8), 2) := by decide +kernel
theorem d_Me_running_7 : decode b_Me_running 7 = .ok (.if_icmp .ge (29), 3) := by decide +kernel
theorem d_Me_running_10 : decode b_Me_running 10 = .ok (.iload_n 1, 1) := by decide +kernel
theorem d_Me_running_11 : decode b_Me_running 11 = .ok (.aload_n 0, 1) := by decide +kernel
theorem d_Me_running_12 : decode b_Me_running 12 = .ok (.getfield 9, 3) := by decide +kernel
theorem d_Me_running_15 : decode b_Me_running 15 = .ok (.iload_n 2, 1) := by decide +kernel
theorem d_Me_running_16 : decode b_Me_running 16 = .ok (.iaload, 1) := by decide +kernel
theorem d_Me_running_17 : decode b_Me_running 17 = .ok (.iconst (1), 1) := by decide +kernel
theorem d_Me_running_18 : decode b_Me_running 18 = .ok (.if_icmp .ne (9), 3) := by decide +kernel
theorem d_Me_running_21 : decode b_Me_running 21 = .ok (.iconst (1), 1) := by decide +kernel
theorem d_Me_running_22 : decode b_Me_running 22 = .ok (.iload_n 2, 1) := by decide +kernel
theorem d_Me_running_23 : decode b_Me_running 23 = .ok (.ishl, 1) := by decide +kernel
theorem d_Me_running_24 : decode b_Me_running 24 = .ok (.goto (4), 3) := by decide +kernel
theorem d_Me_running_27 : decode b_Me_running 27 = .ok (.iconst (0), 1) := by decide +kernel
theorem d_Me_running_28 : decode b_Me_running 28 = .ok (.ior, 1) := by decide +kernel
theorem d_Me_running_29 : decode b_Me_running 29 = .ok (.istore_n 1, 1) := by decide +kernel
theorem d_Me_running_30 : decode b_Me_running 30 = .ok (.iinc 2 (1), 3) := by decide +kernel
theorem d_Me_running_33 : decode b_Me_running 33 = .ok (.goto (-29), 3) := by decide +kernel
theorem d_Me_running_36 : decode b_Me_running 36 = .ok (.iload_n 1, 1) := by decide +kernel
theorem d_Me_running_37 : decode b_Me_running 37 = .ok (.ireturn, 1) := by decide +kernel
theorem d_Me_filled_0 : decode b_Me_filled 0 = .ok (.iconst (0), 1) := by decide +kernel
theorem d_Me_filled_1 : decode b_Me_filled 1 = .ok (.istore_n 1, 1) := by decide +kernel
theorem d_Me_filled_2 : decode b_Me_filled 2 = .ok (.iconst (0), 1) := by decide +kernel
theorem d_Me_filled_3 : decode b_Me_filled 3 = .ok (.istore_n 2, 1) := by decide +kernel
theorem d_Me_filled_4 : decode b_Me_filled 4 = .ok (.iload_n 2, 1) := by decide +kernel
theorem d_Me_filled_5 : decode b_Me_filled 5 = .ok (.bipush (8), 2) := by decide +kernel
theorem d_Me_filled_7 : decode b_Me_filled 7 = .ok (.if_icmp .ge (26), 3) := by decide +kernel
theorem d_Me_filled_10 : decode b_Me_filled 10 = .ok (.iload_n 1, 1) := by decide +kernel
theorem d_Me_filled_11 : decode b_Me_filled 11 = .ok (.aload_n 0, 1) := by decide +kernel
theorem d_Me_filled_12 : decode b_Me_filled 12 = .ok (.getfield 9, 3) := by decide +kernel
theorem d_Me_filled_15 : decode b_Me_filled 15 = .ok (.iload_n 2, 1) := by decide +kernel
theorem d_Me_filled_16 : decode b_Me_filled 16 = .ok (.iaload, 1) := by decide +kernel
theorem d_Me_filled_17 : decode b_Me_filled 17 = .ok (.ifCond .ne (7), 3) := by decide +kernel
theorem d_Me_filled_20 : decode b_Me_filled 20 = .ok (.iconst (0), 1) := by decide +kernel
theorem d_Me_filled_21 : decode b_Me_filled 21 = .ok (.goto (4), 3) := by decide +kernel
theorem d_Me_filled_24 : decode b_Me_filled 24 = .ok (.iconst (1), 1) := by decide +kernel
theorem d_Me_filled_25 : decode b_Me_filled 25 = .ok (.iadd, 1) := by decide +kernel
theorem d_Me_filled_26 : decode b_Me_filled 26 = .ok (.istore_n 1, 1) := by decide +kernel
theorem d_Me_filled_27 : decode b_Me_filled 27 = .ok (.iinc 2 (1), 3) := by decide +kernel
theorem d_Me_filled_30 : decode b_Me_filled 30 = .ok (.goto (-26), 3) := by decide +kernel
theorem d_Me_filled_33 : decode b_Me_filled 33 = .ok (.iload_n 1, 1) := by decide +kernel
theorem d_Me_filled_34 : decode b_Me_filled 34 = .ok (.ireturn, 1) := by decide +kernel
theorem d_Me_hopsOf_0 : decode b_Me_hopsOf 0 = .ok (.aload_n 0, 1) := by decide +kernel
theorem d_Me_hopsOf_1 : decode b_Me_hopsOf 1 = .ok (.getfield 9, 3) := by decide +kernel
theorem d_Me_hopsOf_4 : decode b_Me_hopsOf 4 = .ok (.iload_n 1, 1) := by decide +kernel
theorem d_Me_hopsOf_5 : decode b_Me_hopsOf 5 = .ok (.iaload, 1) := by decide +kernel
theorem d_Me_hopsOf_6 : decode b_Me_hopsOf 6 = .ok (.ifCond .ne (7), 3) := by decide +kernel
theorem d_Me_hopsOf_9 : decode b_Me_hopsOf 9 = .ok (.iconst (-1), 1) := by decide +kernel
theorem d_Me_hopsOf_10 : decode b_Me_hopsOf 10 = .ok (.goto (12), 3) := by decide +kernel
theorem d_Me_hopsOf_13 : decode b_Me_hopsOf 13 = .ok (.aload_n 0, 1) := by decide +kernel
theorem d_Me_hopsOf_14 : decode b_Me_hopsOf 14 = .ok (.getfield 26, 3) := by decide +kernel
theorem d_Me_hopsOf_17 : decode b_Me_hopsOf 17 = .ok (.iload_n 1, 1) := by decide +kernel
theorem d_Me_hopsOf_18 : decode b_Me_hopsOf 18 = .ok (.aaload, 1) := by decide +kernel
theorem d_Me_hopsOf_19 : decode b_Me_hopsOf 19 = .ok (.getfield 79, 3) := by decide +kernel
theorem d_Me_hopsOf_22 : decode b_Me_hopsOf 22 = .ok (.ireturn, 1) := by decide +kernel
theorem d_Me_isLeaving_0 : decode b_Me_isLeaving 0 = .ok (.aload_n 0, 1) := by decide +kernel
theorem d_Me_isLeaving_1 : decode b_Me_isLeaving 1 = .ok (.getfield 9, 3) := by decide +kernel
theorem d_Me_isLeaving_4 : decode b_Me_isLeaving 4 = .ok (.iload_n 1, 1) := by decide +kernel
theorem d_Me_isLeaving_5 : decode b_Me_isLeaving 5 = .ok (.iaload, 1) := by decide +kernel
theorem d_Me_isLeaving_6 : decode b_Me_isLeaving 6 = .ok (.iconst (2), 1) := by decide +kernel
theorem d_Me_isLeaving_7 : decode b_Me_isLeaving 7 = .ok (.if_icmp .ne (20), 3) := by decide +kernel
theorem d_Me_isLeaving_10 : decode b_Me_isLeaving 10 = .ok (.aload_n 0, 1) := by decide +kernel
theorem d_Me_isLeaving_11 : decode b_Me_isLeaving 11 = .ok (.getfield 26, 3) := by decide +kernel
theorem d_Me_isLeaving_14 : decode b_Me_isLeaving 14 = .ok (.iload_n 1, 1) := by decide +kernel
theorem d_Me_isLeaving_15 : decode b_Me_isLeaving 15 = .ok (.aaload, 1) := by decide +kernel
theorem d_Me_isLeaving_16 : decode b_Me_isLeaving 16 = .ok (.getfield 79, 3) := by decide +kernel
theorem d_Me_isLeaving_19 : decode b_Me_isLeaving 19 = .ok (.iload_n 2, 1) := by decide +kernel
theorem d_Me_isLeaving_20 : decode b_Me_isLeaving 20 = .ok (.if_icmp .ne (7), 3) := by decide +kernel
theorem d_Me_isLeaving_23 : decode b_Me_isLeaving 23 = .ok (.iconst (1), 1) := by decide +kernel
theorem d_Me_isLeaving_24 : decode b_Me_isLeaving 24 = .ok (.goto (4), 3) := by decide +kernel
theorem d_Me_isLeaving_27 : decode b_Me_isLeaving 27 = .ok (.iconst (0), 1) := by decide +kernel
theorem d_Me_isLeaving_28 : decode b_Me_isLeaving 28 = .ok (.ireturn, 1) := by decide +kernel
theorem d_Me_passTime_0 : decode b_Me_passTime 0 = .ok (.iconst (0), 1) := by decide +kernel
theorem d_Me_passTime_1 : decode b_Me_passTime 1 = .ok (.istore_n 1, 1) := by decide +kernel
theorem d_Me_passTime_2 : decode b_Me_passTime 2 = .ok (.iload_n 1, 1) := by decide +kernel
theorem d_Me_passTime_3 : decode b_Me_passTime 3 = .ok (.bipush (8), 2) := by decide +kernel
theorem d_Me_passTime_5 : decode b_Me_passTime 5 = .ok (.if_icmp .ge (46), 3) := by decide +kernel
theorem d_Me_passTime_8 : decode b_Me_passTime 8 = .ok (.aload_n 0, 1) := by decide +kernel
theorem d_Me_passTime_9 : decode b_Me_passTime 9 = .ok (.getfield 9, 3) := by decide +kernel
theorem d_Me_passTime_12 : decode b_Me_passTime 12 = .ok (.iload_n 1, 1) := by decide +kernel
theorem d_Me_passTime_13 : decode b_Me_passTime 13 = .ok (.iaload, 1) := by decide +kernel
theorem d_Me_passTime_14 : decode b_Me_passTime 14 = .ok (.iconst (1), 1) := by decide +kernel
theorem d_Me_passTime_15 : decode b_Me_passTime 15 = .ok (.if_icmp .ne (30), 3) := by decide +kernel
theorem d_Me_passTime_18 : decode b_Me_passTime 18 = .ok (.aload_n 0, 1) := by decide +kernel
theorem d_Me_passTime_19 : decode b_Me_passTime 19 = .ok (.getfield 26, 3) := by decide +kernel
theorem d_Me_passTime_22 : decode b_Me_passTime 22 = .ok (.iload_n 1, 1) := by decide +kernel
theorem d_Me_passTime_23 : decode b_Me_passTime 23 = .ok (.aaload, 1) := by decide +kernel
theorem d_Me_passTime_24 : decode b_Me_passTime 24 = .ok (.getfield 82, 3) := by decide +kernel
theorem d_Me_passTime_27 : decode b_Me_passTime 27 = .ok (.ifCond .le (18), 3) := by decide +kernel
theorem d_Me_passTime_30 : decode b_Me_passTime 30 = .ok (.aload_n 0, 1) := by decide +kernel
theorem d_Me_passTime_31 : decode b_Me_passTime 31 = .ok (.getfield 26, 3) := by decide +kernel
theorem d_Me_passTime_34 : decode b_Me_passTime 34 = .ok (.iload_n 1, 1) := by decide +kernel
theorem d_Me_passTime_35 : decode b_Me_passTime 35 = .ok (.aaload, 1) := by decide +kernel
theorem d_Me_passTime_36 : decode b_Me_passTime 36 = .ok (.dup, 1) := by decide +kernel
theorem d_Me_passTime_37 : decode b_Me_passTime 37 = .ok (.getfield 82, 3) := by decide +kernel
theorem d_Me_passTime_40 : decode b_Me_passTime 40 = .ok (.iconst (1), 1) := by decide +kernel
theorem d_Me_passTime_41 : decode b_Me_passTime 41 = .ok (.isub, 1) := by decide +kernel
theorem d_Me_passTime_42 : decode b_Me_passTime 42 = .ok (.putfield 82, 3) := by decide +kernel
theorem d_Me_passTime_45 : decode b_Me_passTime 45 = .ok (.iinc 1 (1), 3) := by decide +kernel
theorem d_Me_passTime_48 : decode b_Me_passTime 48 = .ok (.goto (-46), 3) := by decide +kernel
theorem d_Me_passTime_51 : decode b_Me_passTime 51 = .ok (.return_, 1) := by decide +kernel
theorem d_Nu_init_0 : decode b_Nu_init 0 = .ok (.aload_n 0, 1) := by decide +kernel
theorem d_Nu_init_1 : decode b_Nu_init 1 = .ok (.invokespecial 3, 3) := by decide +kernel
theorem d_Nu_init_4 : decode b_Nu_init 4 = .ok (.aload_n 0, 1) := by decide +kernel
theorem d_Nu_init_5 : decode b_Nu_init 5 = .ok (.bipush (8), 2) := by decide +kernel
theorem d_Nu_init_7 : decode b_Nu_init 7 = .ok (.newarray .int, 2) := by decide +kernel
theorem d_Nu_init_9 : decode b_Nu_init 9 = .ok (.putfield 9, 3) := by decide +kernel
theorem d_Nu_init_12 : decode b_Nu_init 12 = .ok (.aload_n 0, 1) := by decide +kernel
theorem d_Nu_init_13 : decode b_Nu_init 13 = .ok (.bipush (8), 2) := by decide +kernel
theorem d_Nu_init_15 : decode b_Nu_init 15 = .ok (.newarray .int, 2) := by decide +kernel
theorem d_Nu_init_17 : decode b_Nu_init 17 = .ok (.putfield 15, 3) := by decide +kernel
theorem d_Nu_init_20 : decode b_Nu_init 20 = .ok (.aload_n 0, 1) := by decide +kernel
theorem d_Nu_init_21 : decode b_Nu_init 21 = .ok (.bipush (8), 2) := by decide +kernel
theorem d_Nu_init_23 : decode b_Nu_init 23 = .ok (.newarray .long, 2) := by decide +kernel
theorem d_Nu_init_25 : decode b_Nu_init 25 = .ok (.putfield 18, 3) := by decide +kernel
theorem d_Nu_init_28 : decode b_Nu_init 28 = .ok (.aload_n 0, 1) := by decide +kernel
theorem d_Nu_init_29 : decode b_Nu_init 29 = .ok (.bipush (8), 2) := by decide +kernel
theorem d_Nu_init_31 : decode b_Nu_init 31 = .ok (.newarray .long, 2) := by decide +kernel
theorem d_Nu_init_33 : decode b_Nu_init 33 = .ok (.putfield 22, 3) := by decide +kernel
theorem d_Nu_init_36 : decode b_Nu_init 36 = .ok (.aload_n 0, 1) := by decide +kernel
theorem d_Nu_init_37 : decode b_Nu_init 37 = .ok (.iconst (0), 1) := by decide +kernel
theorem d_Nu_init_38 : decode b_Nu_init 38 = .ok (.putfield 25, 3) := by decide +kernel
theorem d_Nu_init_41 : decode b_Nu_init 41 = .ok (.return_, 1) := by decide +kernel
theorem d_Nu_renumber_0 : decode b_Nu_renumber 0 = .ok (.aload_n 1, 1) := by decide +kernel
theorem d_Nu_renumber_1 : decode b_Nu_renumber 1 = .ok (.getfield 29, 3) := by decide +kernel
theorem d_Nu_renumber_4 : decode b_Nu_renumber 4 = .ok (.ifCond .ne (4), 3) := by decide +kernel
theorem d_Nu_renumber_7 : decode b_Nu_renumber 7 = .ok (.return_, 1) := by decide +kernel
theorem d_Nu_renumber_8 : decode b_Nu_renumber 8 = .ok (.aload_n 0, 1) := by decide +kernel
theorem d_Nu_renumber_9 : decode b_Nu_renumber 9 = .ok (.getfield 9, 3) := by decide +kernel
theorem d_Nu_renumber_12 : decode b_Nu_renumber 12 = .ok (.iconst (-1), 1) := by decide +kernel
theorem d_Nu_renumber_13 : decode b_Nu_renumber 13 = .ok (.invokestatic 34, 3) := by decide +kernel
theorem d_Nu_renumber_16 : decode b_Nu_renumber 16 = .ok (.aload_n 0, 1) := by decide +kernel
theorem d_Nu_renumber_17 : decode b_Nu_renumber 17 = .ok (.iconst (0), 1) := by decide +kernel
theorem d_Nu_renumber_18 : decode b_Nu_renumber 18 = .ok (.putfield 25, 3) := by decide +kernel
theorem d_Nu_renumber_21 : decode b_Nu_renumber 21 = .ok (.iconst (0), 1) := by decide +kernel
theorem d_Nu_renumber_22 : decode b_Nu_renumber 22 = .ok (.istore_n 2, 1) := by decide +kernel
theorem d_Nu_renumber_23 : decode b_Nu_renumber 23 = .ok (.iload_n 2, 1) := by decide +kernel
theorem d_Nu_renumber_24 : decode b_Nu_renumber 24 = .ok (.aload_n 1, 1) := by decide +kernel
theorem d_Nu_renumber_25 : decode b_Nu_renumber 25 = .ok (.getfield 40, 3) := by decide +kernel
theorem d_Nu_renumber_28 : decode b_Nu_renumber 28 = .ok (.if_icmp .ge (25), 3) := by decide +kernel
theorem d_Nu_renumber_31 : decode b_Nu_renumber 31 = .ok (.aload_n 1, 1) := by decide +kernel
theorem d_Nu_renumber_32 : decode b_Nu_renumber 32 = .ok (.getfield 43, 3) := by decide +kernel
theorem d_Nu_renumber_35 : decode b_Nu_renumber 35 = .ok (.iload_n 2, 1) := by decide +kernel
theorem d_Nu_renumber_36 : decode b_Nu_renumber 36 = .ok (.aload_n 0, 1) := by decide +kernel
theorem d_Nu_renumber_37 : decode b_Nu_renumber 37 = .ok (.aload_n 1, 1) := by decide +kernel
theorem d_Nu_renumber_38 : decode b_Nu_renumber 38 = .ok (.getfield 43, 3) := by decide +kernel
theorem d_Nu_renumber_41 : decode b_Nu_renumber 41 = .ok (.iload_n 2, 1) := by decide +kernel
theorem d_Nu_renumber_42 : decode b_Nu_renumber 42 = .ok (.laload, 1) := by decide +kernel
theorem d_Nu_renumber_43 : decode b_Nu_renumber 43 = .ok (.invokevirtual 46, 3) := by decide +kernel
theorem d_Nu_renumber_46 : decode b_Nu_renumber 46 = .ok (.lastore, 1) := by decide +kernel
theorem d_Nu_renumber_47 : decode b_Nu_renumber 47 = .ok (.iinc 2 (1), 3) := by decide +kernel
theorem d_Nu_renumber_50 : decode b_Nu_renumber 50 = .ok (.goto (-27), 3) := by decide +kernel
theorem d_Nu_renumber_53 : decode b_Nu_renumber 53 = .ok (.iconst (0), 1) := by decide +kernel
theorem d_Nu_renumber_54 : decode b_Nu_renumber 54 = .ok (.istore_n 2, 1) := by decide +kernel
theorem d_Nu_renumber_55 : decode b_Nu_renumber 55 = .ok (.iload_n 2, 1) := by decide +kernel
theorem d_Nu_renumber_56 : decode b_Nu_renumber 56 = .ok (.bipush (8), 2) := by decide +kernel
theorem d_Nu_renumber_58 : decode b_Nu_renumber 58 = .ok (.if_icmp .ge (59), 3) := by decide +kernel
theorem d_Nu_renumber_61 : decode b_Nu_renumber 61 = .ok (.iload_n 2, 1) := by decide +kernel
theorem d_Nu_renumber_62 : decode b_Nu_renumber 62 = .ok (.aload_n 0, 1) := by decide +kernel
theorem d_Nu_renumber_63 : decode b_Nu_renumber 63 = .ok (.getfield 25, 3) := by decide +kernel
theorem d_Nu_renumber_66 : decode b_Nu_renumber 66 = .ok (.if_icmp .ge (51), 3) := by decide +kernel
theorem d_Nu_renumber_69 : decode b_Nu_renumber 69 = .ok (.aload_n 0, 1) := by decide +kernel
theorem d_Nu_renumber_70 : decode b_Nu_renumber 70 = .ok (.getfield 18, 3) := by decide +kernel
theorem d_Nu_renumber_73 : decode b_Nu_renumber 73 = .ok (.iload_n 2, 1) := by decide +kernel
theorem d_Nu_renumber_74 : decode b_Nu_renumber 74 = .ok (.aload_n 0, 1) := by decide +kernel
theorem d_Nu_renumber_75 : decode b_Nu_renumber 75 = .ok (.aload_n 1, 1) := by decide +kernel
theorem d_Nu_renumber_76 : decode b_Nu_renumber 76 = .ok (.getfield 50, 3) := by decide +kernel
theorem d_Nu_renumber_79 : decode b_Nu_renumber 79 = .ok (.aload_n 0, 1) := by decide +kernel
theorem d_Nu_renumber_80 : decode b_Nu_renumber 80 = .ok (.getfield 15, 3) := by decide +kernel
theorem d_Nu_renumber_83 : decode b_Nu_renumber 83 = .ok (.iload_n 2, 1) := by decide +kernel
theorem d_Nu_renumber_84 : decode b_Nu_renumber 84 = .ok (.iaload, 1) := by decide +kernel
theorem d_Nu_renumber_85 : decode b_Nu_renumber 85 = .ok (.laload, 1) := by decide +kernel
theorem d_Nu_renumber_86 : decode b_Nu_renumber 86 = .ok (.invokevirtual 46, 3) := by decide +kernel
theorem d_Nu_renumber_89 : decode b_Nu_renumber 89 = .ok (.lastore, 1) := by decide +kernel
theorem d_Nu_renumber_90 : decode b_Nu_renumber 90 = .ok (.aload_n 0, 1) := by decide +kernel
theorem d_Nu_renumber_91 : decode b_Nu_renumber 91 = .ok (.getfield 22, 3) := by decide +kernel
theorem d_Nu_renumber_94 : decode b_Nu_renumber 94 = .ok (.iload_n 2, 1) := by decide +kernel
theorem d_Nu_renumber_95 : decode b_Nu_renumber 95 = .ok (.aload_n 0, 1) := by decide +kernel
theorem d_Nu_renumber_96 : decode b_Nu_renumber 96 = .ok (.aload_n 1, 1) := by decide +kernel
theorem d_Nu_renumber_97 : decode b_Nu_renumber 97 = .ok (.getfield 51, 3) := by decide +kernel
theorem d_Nu_renumber_100 : decode b_Nu_renumber 100 = .ok (.aload_n 0, 1) := by decide +kernel
theorem d_Nu_renumber_101 : decode b_Nu_renumber 101 = .ok (.getfield 15, 3) := by decide +kernel
theorem d_Nu_renumber_104 : decode b_Nu_renumber 104 = .ok (.iload_n 2, 1) := by decide +kernel
theorem d_Nu_renumber_105 : decode b_Nu_renumber 105 = .ok (.iaload, 1) := by decide +kernel
theorem d_Nu_renumber_106 : decode b_Nu_renumber 106 = .ok (.laload, 1) := by decide +kernel
theorem d_Nu_renumber_107 : decode b_Nu_renumber 107 = .ok (.invokevirtual 46, 3) := by decide +kernel
theorem d_Nu_renumber_110 : decode b_Nu_renumber 110 = .ok (.lastore, 1) := by decide +kernel
theorem d_Nu_renumber_111 : decode b_Nu_renumber 111 = .ok (.iinc 2 (1), 3) := by decide +kernel
theorem d_Nu_renumber_114 : decode b_Nu_renumber 114 = .ok (.goto (-59), 3) := by decide +kernel
theorem d_Nu_renumber_117 : decode b_Nu_renumber 117 = .ok (.aload_n 0, 1) := by decide +kernel
theorem d_Nu_renumber_118 : decode b_Nu_renumber 118 = .ok (.getfield 18, 3) := by decide +kernel
theorem d_Nu_renumber_121 : decode b_Nu_renumber 121 = .ok (.iconst (0), 1) := by decide +kernel
theorem d_Nu_renumber_122 : decode b_Nu_renumber 122 = .ok (.aload_n 1, 1) := by decide +kernel
theorem d_Nu_renumber_123 : decode b_Nu_renumber 123 = .ok (.getfield 50, 3) := by decide +kernel
theorem d_Nu_renumber_126 : decode b_Nu_renumber 126 = .ok (.iconst (0), 1) := by decide +kernel
theorem d_Nu_renumber_127 : decode b_Nu_renumber 127 = .ok (.aload_n 0, 1) := by decide +kernel
theorem d_Nu_renumber_128 : decode b_Nu_renumber 128 = .ok (.getfield 25, 3) := by decide +kernel
theorem d_Nu_renumber_131 : decode b_Nu_renumber 131 = .ok (.invokestatic 52, 3) := by decide +kernel
theorem d_Nu_renumber_134 : decode b_Nu_renumber 134 = .ok (.aload_n 0, 1) := by decide +kernel
theorem d_Nu_renumber_135 : decode b_Nu_renumber 135 = .ok (.getfield 22, 3) := by decide +kernel
theorem d_Nu_renumber_138 : decode b_Nu_renumber 138 = .ok (.iconst (0), 1) := by decide +kernel
theorem d_Nu_renumber_139 : decode b_Nu_renumber 139 = .ok (.aload_n 1, 1) := by decide +kernel
theorem d_Nu_renumber_140 : decode b_Nu_renumber 140 = .ok (.getfield 51, 3) := by decide +kernel
theorem d_Nu_renumber_143 : decode b_Nu_renumber 143 = .ok (.iconst (0), 1) := by decide +kernel
theorem d_Nu_renumber_144 : decode b_Nu_renumber 144 = .ok (.aload_n 0, 1) := by decide +kernel
theorem d_Nu_renumber_145 : decode b_Nu_renumber 145 = .ok (.getfield 25, 3) := by decide +kernel
theorem d_Nu_renumber_148 : decode b_Nu_renumber 148 = .ok (.invokestatic 52, 3) := by decide +kernel
theorem d_Nu_renumber_151 : decode b_Nu_renumber 151 = .ok (.aload_n 1, 1) := by decide +kernel
theorem d_Nu_renumber_152 : decode b_Nu_renumber 152 = .ok (.aload_n 0, 1) := by decide +kernel
theorem d_Nu_renumber_153 : decode b_Nu_renumber 153 = .ok (.getfield 25, 3) := by decide +kernel
theorem d_Nu_renumber_156 : decode b_Nu_renumber 156 = .ok (.putfield 29, 3) := by decide +kernel
theorem d_Nu_renumber_159 : decode b_Nu_renumber 159 = .ok (.return_, 1) := by decide +kernel
theorem d_Nu_renamed_0 : decode b_Nu_renamed 0 = .ok (.lload_n 1, 1) := by decide +kernel
theorem d_Nu_renamed_1 : decode b_Nu_renamed 1 = .ok (.invokestatic 58, 3) := by decide +kernel
theorem d_Nu_renamed_4 : decode b_Nu_renamed 4 = .ok (.ifCond .ne (5), 3) := by decide +kernel
theorem d_Nu_renamed_7 : decode b_Nu_renamed 7 = .ok (.lload_n 1, 1) := by decide +kernel
theorem d_Nu_renamed_8 : decode b_Nu_renamed 8 = .ok (.lreturn, 1) := by decide +kernel
theorem d_Nu_renamed_9 : decode b_Nu_renamed 9 = .ok (.lload_n 1, 1) := by decide +kernel
theorem d_Nu_renamed_10 : decode b_Nu_renamed 10 = .ok (.ldc2_w 62, 3) := by decide +kernel
theorem d_Nu_renamed_13 : decode b_Nu_renamed 13 = .ok (.lsub, 1) := by decide +kernel
theorem d_Nu_renamed_14 : decode b_Nu_renamed 14 = .ok (.l2i, 1) := by decide +kernel
theorem d_Nu_renamed_15 : decode b_Nu_renamed 15 = .ok (.istore_n 3, 1) := by decide +kernel
theorem d_Nu_renamed_16 : decode b_Nu_renamed 16 = .ok (.aload_n 0, 1) := by decide +kernel
theorem d_Nu_renamed_17 : decode b_Nu_renamed 17 = .ok (.getfield 9, 3) := by decide +kernel
theorem d_Nu_renamed_20 : decode b_Nu_renamed 20 = .ok (.iload_n 3, 1) := by decide +kernel
theorem d_Nu_renamed_21 : decode b_Nu_renamed 21 = .ok (.iaload, 1) := by decide +kernel
theorem d_Nu_renamed_22 : decode b_Nu_renamed 22 = .ok (.iconst (-1), 1) := by decide +kernel
theorem d_Nu_renamed_23 : decode b_Nu_renamed 23 = .ok (.if_icmp .ne (33), 3) := by decide +kernel
theorem d_Nu_renamed_26 : decode b_Nu_renamed 26 = .ok (.aload_n 0, 1) := by decide +kernel
theorem d_Nu_renamed_27 : decode b_Nu_renamed 27 = .ok (.getfield 9, 3) := by decide +kernel
theorem d_Nu_renamed_30 : decode b_Nu_renamed 30 = .ok (.iload_n 3, 1) := by decide +kernel
theorem d_Nu_renamed_31 : decode b_Nu_renamed 31 = .ok (.aload_n 0, 1) := by decide +kernel
theorem d_Nu_renamed_32 : decode b_Nu_renamed 32 = .ok (.getfield 25, 3) := by decide +kernel
theorem d_Nu_renamed_35 : decode b_Nu_renamed 35 = .ok (.iastore, 1) := by decide +kernel
theorem d_Nu_renamed_36 : decode b_Nu_renamed 36 = .ok (.aload_n 0, 1) := by decide +kernel
theorem d_Nu_renamed_37 : decode b_Nu_renamed 37 = .ok (.getfield 15, 3) := by decide +kernel
theorem d_Nu_renamed_40 : decode b_Nu_renamed 40 = .ok (.aload_n 0, 1) := by decide +kernel
theorem d_Nu_renamed_41 : decode b_Nu_renamed 41 = .ok (.getfield 25, 3) := by decide +kernel
theorem d_Nu_renamed_44 : decode b_Nu_renamed 44 = .ok (.iload_n 3, 1) := by decide +kernel
theorem d_Nu_renamed_45 : decode b_Nu_renamed 45 = .ok (.iastore, 1) := by decide +kernel
theorem d_Nu_renamed_46 : decode b_Nu_renamed 46 = .ok (.aload_n 0, 1) := by decide +kernel
theorem d_Nu_renamed_47 : decode b_Nu_renamed 47 = .ok (.dup, 1) := by decide +kernel
theorem d_Nu_renamed_48 : decode b_Nu_renamed 48 = .ok (.getfield 25, 3) := by decide +kernel
theorem d_Nu_renamed_51 : decode b_Nu_renamed 51 = .ok (.iconst (1), 1) := by decide +kernel
theorem d_Nu_renamed_52 : decode b_Nu_renamed 52 = .ok (.iadd, 1) := by decide +kernel
theorem d_Nu_renamed_53 : decode b_Nu_renamed 53 = .ok (.putfield 25, 3) := by decide +kernel
theorem d_Nu_renamed_56 : decode b_Nu_renamed 56 = .ok (.ldc2_w 62, 3) := by decide +kernel
theorem d_Nu_renamed_59 : decode b_Nu_renamed 59 = .ok (.aload_n 0, 1) := by decide +kernel
theorem d_Nu_renamed_60 : decode b_Nu_renamed 60 = .ok (.getfield 9, 3) := by decide +kernel
theorem d_Nu_renamed_63 : decode b_Nu_renamed 63 = .ok (.iload_n 3, 1) := by decide +kernel
theorem d_Nu_renamed_64 : decode b_Nu_renamed 64 = .ok (.iaload, 1) := by decide +kernel
theorem d_Nu_renamed_65 : decode b_Nu_renamed 65 = .ok (.i2l, 1) := by decide +kernel
theorem d_Nu_renamed_66 : decode b_Nu_renamed 66 = .ok (.ladd, 1) := by decide +kernel
theorem d_Nu_renamed_67 : decode b_Nu_renamed 67 = .ok (.lreturn, 1) := by decide +kernel
theorem d_Sy_init_0 : decode b_Sy_init 0 = .ok (.aload_n 0, 1) := by decide +kernel
theorem d_Sy_init_1 : decode b_Sy_init 1 = .ok (.invokespecial 3, 3) := by decide +kernel
theorem d_Sy_init_4 : decode b_Sy_init 4 = .ok (.aload_n 0, 1) := by decide +kernel
theorem d_Sy_init_5 : decode b_Sy_init 5 = .ok (.bipush (8), 2) := by decide +kernel
theorem d_Sy_init_7 : decode b_Sy_init 7 = .ok (.newarray .int, 2) := by decide +kernel
theorem d_Sy_init_9 : decode b_Sy_init 9 = .ok (.putfield 9, 3) := by decide +kernel
theorem d_Sy_init_12 : decode b_Sy_init 12 = .ok (.aload_n 0, 1) := by decide +kernel
theorem d_Sy_init_13 : decode b_Sy_init 13 = .ok (.sipush (128), 3) := by decide +kernel
theorem d_Sy_init_16 : decode b_Sy_init 16 = .ok (.newarray .int, 2) := by decide +kernel
theorem d_Sy_init_18 : decode b_Sy_init 18 = .ok (.putfield 15, 3) := by decide +kernel
theorem d_Sy_init_21 : decode b_Sy_init 21 = .ok (.return_, 1) := by decide +kernel
theorem d_Sy_put_0 : decode b_Sy_put 0 = .ok (.iload_n 1, 1) := by decide +kernel
theorem d_Sy_put_1 : decode b_Sy_put 1 = .ok (.invokestatic 18, 3) := by decide +kernel
theorem d_Sy_put_4 : decode b_Sy_put 4 = .ok (.ifCond .eq (37), 3) := by decide +kernel
theorem d_Sy_put_7 : decode b_Sy_put 7 = .ok (.iload_n 2, 1) := by decide +kernel
theorem d_Sy_put_8 : decode b_Sy_put 8 = .ok (.ifCond .lt (33), 3) := by decide +kernel
theorem d_Sy_put_11 : decode b_Sy_put 11 = .ok (.iload_n 2, 1) := by decide +kernel
theorem d_Sy_put_12 : decode b_Sy_put 12 = .ok (.bipush (16), 2) := by decide +kernel
theorem d_Sy_put_14 : decode b_Sy_put 14 = .ok (.if_icmp .ge (27), 3) := by decide +kernel
theorem d_Sy_put_17 : decode b_Sy_put 17 = .ok (.aload_n 0, 1) := by decide +kernel
theorem d_Sy_put_18 : decode b_Sy_put 18 = .ok (.getfield 9, 3) := by decide +kernel
theorem d_Sy_put_21 : decode b_Sy_put 21 = .ok (.iload_n 1, 1) := by decide +kernel
theorem d_Sy_put_22 : decode b_Sy_put 22 = .ok (.dup2, 1) := by decide +kernel
theorem d_Sy_put_23 : decode b_Sy_put 23 = .ok (.iaload, 1) := by decide +kernel
theorem d_Sy_put_24 : decode b_Sy_put 24 = .ok (.iconst (1), 1) := by decide +kernel
theorem d_Sy_put_25 : decode b_Sy_put 25 = .ok (.iload_n 2, 1) := by decide +kernel
theorem d_Sy_put_26 : decode b_Sy_put 26 = .ok (.ishl, 1) := by decide +kernel
theorem d_Sy_put_27 : decode b_Sy_put 27 = .ok (.ior, 1) := by decide +kernel
theorem d_Sy_put_28 : decode b_Sy_put 28 = .ok (.iastore, 1) := by decide +kernel
theorem d_Sy_put_29 : decode b_Sy_put 29 = .ok (.aload_n 0, 1) := by decide +kernel
theorem d_Sy_put_30 : decode b_Sy_put 30 = .ok (.getfield 15, 3) := by decide +kernel
theorem d_Sy_put_33 : decode b_Sy_put 33 = .ok (.iload_n 1, 1) := by decide +kernel
theorem d_Sy_put_34 : decode b_Sy_put 34 = .ok (.bipush (16), 2) := by decide +kernel
theorem d_Sy_put_36 : decode b_Sy_put 36 = .ok (.imul, 1) := by decide +kernel
theorem d_Sy_put_37 : decode b_Sy_put 37 = .ok (.iload_n 2, 1) := by decide +kernel
theorem d_Sy_put_38 : decode b_Sy_put 38 = .ok (.iadd, 1) := by decide +kernel
theorem d_Sy_put_39 : decode b_Sy_put 39 = .ok (.iload_n 3, 1) := by decide +kernel
theorem d_Sy_put_40 : decode b_Sy_put 40 = .ok (.iastore, 1) := by decide +kernel
theorem d_Sy_put_41 : decode b_Sy_put 41 = .ok (.return_, 1) := by decide +kernel
theorem d_Sy_count_0 : decode b_Sy_count 0 = .ok (.aload_n 0, 1) := by decide +kernel
theorem d_Sy_count_1 : decode b_Sy_count 1 = .ok (.getfield 9, 3) := by decide +kernel
theorem d_Sy_count_4 : decode b_Sy_count 4 = .ok (.iload_n 1, 1) := by decide +kernel
theorem d_Sy_count_5 : decode b_Sy_count 5 = .ok (.iaload, 1) := by decide +kernel
theorem d_Sy_count_6 : decode b_Sy_count 6 = .ok (.invokestatic 22, 3) := by decide +kernel
theorem d_Sy_count_9 : decode b_Sy_count 9 = .ok (.ireturn, 1) := by decide +kernel
theorem d_Sy_valueOf_0 : decode b_Sy_valueOf 0 = .ok (.iload_n 1, 1) := by decide +kernel
theorem d_Sy_valueOf_1 : decode b_Sy_valueOf 1 = .ok (.invokestatic 18, 3) := by decide +kernel
theorem d_Sy_valueOf_4 : decode b_Sy_valueOf 4 = .ok (.ifCond .eq (26), 3) := by decide +kernel
theorem d_Sy_valueOf_7 : decode b_Sy_valueOf 7 = .ok (.iload_n 2, 1) := by decide +kernel
theorem d_Sy_valueOf_8 : decode b_Sy_valueOf 8 = .ok (.ifCond .lt (22), 3) := by decide +kernel
theorem d_Sy_valueOf_11 : decode b_Sy_valueOf 11 = .ok (.iload_n 2, 1) := by decide +kernel
theorem d_Sy_valueOf_12 : decode b_Sy_valueOf 12 = .ok (.bipush (16), 2) := by decide +kernel
theorem d_Sy_valueOf_14 : decode b_Sy_valueOf 14 = .ok (.if_icmp .ge (16), 3) := by decide +kernel
theorem d_Sy_valueOf_17 : decode b_Sy_valueOf 17 = .ok (.aload_n 0, 1) := by decide +kernel
theorem d_Sy_valueOf_18 : decode b_Sy_valueOf 18 = .ok (.getfield 9, 3) := by decide +kernel
theorem d_Sy_valueOf_21 : decode b_Sy_valueOf 21 = .ok (.iload_n 1, 1) := by decide +kernel
theorem d_Sy_valueOf_22 : decode b_Sy_valueOf 22 = .ok (.iaload, 1) := by decide +kernel
theorem d_Sy_valueOf_23 : decode b_Sy_valueOf 23 = .ok (.iload_n 2, 1) := by decide +kernel
theorem d_Sy_valueOf_24 : decode b_Sy_valueOf 24 = .ok (.ishr, 1) := by decide +kernel
theorem d_Sy_valueOf_25 : decode b_Sy_valueOf 25 = .ok (.iconst (1), 1) := by decide +kernel
theorem d_Sy_valueOf_26 : decode b_Sy_valueOf 26 = .ok (.iand, 1) := by decide +kernel
theorem d_Sy_valueOf_27 : decode b_Sy_valueOf 27 = .ok (.ifCond .ne (7), 3) := by decide +kernel
theorem d_Sy_valueOf_30 : decode b_Sy_valueOf 30 = .ok (.ldc2_w 28, 3) := by decide +kernel
theorem d_Sy_valueOf_33 : decode b_Sy_valueOf 33 = .ok (.lreturn, 1) := by decide +kernel
theorem d_Sy_valueOf_34 : decode b_Sy_valueOf 34 = .ok (.aload_n 0, 1) := by decide +kernel
theorem d_Sy_valueOf_35 : decode b_Sy_valueOf 35 = .ok (.getfield 15, 3) := by decide +kernel
theorem d_Sy_valueOf_38 : decode b_Sy_valueOf 38 = .ok (.iload_n 1, 1) := by decide +kernel
theorem d_Sy_valueOf_39 : decode b_Sy_valueOf 39 = .ok (.bipush (16), 2) := by decide +kernel
theorem d_Sy_valueOf_41 : decode b_Sy_valueOf 41 = .ok (.imul, 1) := by decide +kernel
theorem d_Sy_valueOf_42 : decode b_Sy_valueOf 42 = .ok (.iload_n 2, 1) := by decide +kernel
theorem d_Sy_valueOf_43 : decode b_Sy_valueOf 43 = .ok (.iadd, 1) := by decide +kernel
theorem d_Sy_valueOf_44 : decode b_Sy_valueOf 44 = .ok (.iaload, 1) := by decide +kernel
theorem d_Sy_valueOf_45 : decode b_Sy_valueOf 45 = .ok (.i2l, 1) := by decide +kernel
theorem d_Sy_valueOf_46 : decode b_Sy_valueOf 46 = .ok (.lreturn, 1) := by decide +kernel
theorem d_Sy_copyFrom_0 : decode b_Sy_copyFrom 0 = .ok (.aload_n 1, 1) := by decide +kernel
theorem d_Sy_copyFrom_1 : decode b_Sy_copyFrom 1 = .ok (.getfield 9, 3) := by decide +kernel
theorem d_Sy_copyFrom_4 : decode b_Sy_copyFrom 4 = .ok (.iconst (0), 1) := by decide +kernel
theorem d_Sy_copyFrom_5 : decode b_Sy_copyFrom 5 = .ok (.aload_n 0, 1) := by decide +kernel
theorem d_Sy_copyFrom_6 : decode b_Sy_copyFrom 6 = .ok (.getfield 9, 3) := by decide +kernel
theorem d_Sy_copyFrom_9 : decode b_Sy_copyFrom 9 = .ok (.iconst (0), 1) := by decide +kernel
theorem d_Sy_copyFrom_10 : decode b_Sy_copyFrom 10 = .ok (.bipush (8), 2) := by decide +kernel
theorem d_Sy_copyFrom_12 : decode b_Sy_copyFrom 12 = .ok (.invokestatic 30, 3) := by decide +kernel
theorem d_Sy_copyFrom_15 : decode b_Sy_copyFrom 15 = .ok (.aload_n 1, 1) := by decide +kernel
theorem d_Sy_copyFrom_16 : decode b_Sy_copyFrom 16 = .ok (.getfield 15, 3) := by decide +kernel
theorem d_Sy_copyFrom_19 : decode b_Sy_copyFrom 19 = .ok (.iconst (0), 1) := by decide +kernel
theorem d_Sy_copyFrom_20 : decode b_Sy_copyFrom 20 = .ok (.aload_n 0, 1) := by decide +kernel
theorem d_Sy_copyFrom_21 : decode b_Sy_copyFrom 21 = .ok (.getfield 15, 3) := by decide +kernel
theorem d_Sy_copyFrom_24 : decode b_Sy_copyFrom 24 = .ok (.iconst (0), 1) := by decide +kernel
theorem d_Sy_copyFrom_25 : decode b_Sy_copyFrom 25 = .ok (.sipush (128), 3) := by decide +kernel
theorem d_Sy_copyFrom_28 : decode b_Sy_copyFrom 28 = .ok (.invokestatic 30, 3) := by decide +kernel
theorem d_Sy_copyFrom_31 : decode b_Sy_copyFrom 31 = .ok (.return_, 1) := by decide +kernel
theorem d_Sy_addMissing_0 : decode b_Sy_addMissing 0 = .ok (.iconst (0), 1) := by decide +kernel
theorem d_Sy_addMissing_1 : decode b_Sy_addMissing 1 = .ok (.istore_n 2, 1) := by decide +kernel
theorem d_Sy_addMissing_2 : decode b_Sy_addMissing 2 = .ok (.iload_n 2, 1) := by decide +kernel
theorem d_Sy_addMissing_3 : decode b_Sy_addMissing 3 = .ok (.bipush (8), 2) := by decide +kernel
theorem d_Sy_addMissing_5 : decode b_Sy_addMissing 5 = .ok (.if_icmp .ge (69), 3) := by decide +kernel
theorem d_Sy_addMissing_8 : decode b_Sy_addMissing 8 = .ok (.aload_n 1, 1) := by decide +kernel
theorem d_Sy_addMissing_9 : decode b_Sy_addMissing 9 = .ok (.getfield 9, 3) := by decide +kernel
theorem d_Sy_addMissing_12 : decode b_Sy_addMissing 12 = .ok (.iload_n 2, 1) := by decide +kernel
theorem d_Sy_addMissing_13 : decode b_Sy_addMissing 13 = .ok (.iaload, 1) := by decide +kernel
theorem d_Sy_addMissing_14 : decode b_Sy_addMissing 14 = .ok (.aload_n 0, 1) := by decide +kernel
theorem d_Sy_addMissing_15 : decode b_Sy_addMissing 15 = .ok (.getfield 9, 3) := by decide +kernel
theorem d_Sy_addMissing_18 : decode b_Sy_addMissing 18 = .ok (.iload_n 2, 1) := by decide +kernel
theorem d_Sy_addMissing_19 : decode b_Sy_addMissing 19 = .ok (.iaload, 1) := by decide +kernel
theorem d_Sy_addMissing_20 : decode b_Sy_addMissing 20 = .ok (.iconst (-1), 1) := by decide +kernel
theorem d_Sy_addMissing_21 : decode b_Sy_addMissing 21 = .ok (.ixor, 1) := by decide +kernel
theorem d_Sy_addMissing_22 : decode b_Sy_addMissing 22 = .ok (.iand, 1) := by decide +kernel
theorem d_Sy_addMissing_23 : decode b_Sy_addMissing 23 = .ok (.istore_n 3, 1) := by decide +kernel
theorem d_Sy_addMissing_24 : decode b_Sy_addMissing 24 = .ok (.iconst (0), 1) := by decide +kernel
theorem d_Sy_addMissing_25 : decode b_Sy_addMissing 25 = .ok (.istore 4, 2) := by decide +kernel
theorem d_Sy_addMissing_27 : decode b_Sy_addMissing 27 = .ok (.iload 4, 2) := by decide +kernel
theorem d_Sy_addMissing_29 : decode b_Sy_addMissing 29 = .ok (.bipush (16), 2) := by decide +kernel
theorem d_Sy_addMissing_31 : decode b_Sy_addMissing 31 = .ok (.if_icmp .ge (37), 3) := by decide +kernel
theorem d_Sy_addMissing_34 : decode b_Sy_addMissing 34 = .ok (.iload_n 3, 1) := by decide +kernel
theorem d_Sy_addMissing_35 : decode b_Sy_addMissing 35 = .ok (.iload 4, 2) := by decide +kernel
theorem d_Sy_addMissing_37 : decode b_Sy_addMissing 37 = .ok (.ishr, 1) := by decide +kernel
theorem d_Sy_addMissing_38 : decode b_Sy_addMissing 38 = .ok (.iconst (1), 1) := by decide +kernel
theorem d_Sy_addMissing_39 : decode b_Sy_addMissing 39 = .ok (.iand, 1) := by decide +kernel
theorem d_Sy_addMissing_40 : decode b_Sy_addMissing 40 = .ok (.ifCond .eq (22), 3) := by decide +kernel
theorem d_Sy_addMissing_43 : decode b_Sy_addMissing 43 = .ok (.aload_n 0, 1) := by decide +kernel
theorem d_Sy_addMissing_44 : decode b_Sy_addMissing 44 = .ok (.iload_n 2, 1) := by decide +kernel
theorem d_Sy_addMissing_45 : decode b_Sy_addMissing 45 = .ok (.iload 4, 2) := by decide +kernel
theorem d_Sy_addMissing_47 : decode b_Sy_addMissing 47 = .ok (.aload_n 1, 1) := by decide +kernel
theorem d_Sy_addMissing_48 : decode b_Sy_addMissing 48 = .ok (.getfield 15, 3) := by decide +kernel
theorem d_Sy_addMissing_51 : decode b_Sy_addMissing 51 = .ok (.iload_n 2, 1) := by decide +kernel
theorem d_Sy_addMissing_52 : decode b_Sy_addMissing 52 = .ok (.bipush (16), 2) := by decide +kernel
theorem d_Sy_addMissing_54 : decode b_Sy_addMissing 54 = .ok (.imul, 1) := by decide +kernel
theorem d_Sy_addMissing_55 : decode b_Sy_addMissing 55 = .ok (.iload 4, 2) := by decide +kernel
theorem d_Sy_addMissing_57 : decode b_Sy_addMissing 57 = .ok (.iadd, 1) := by decide +kernel
theorem d_Sy_addMissing_58 : decode b_Sy_addMissing 58 = .ok (.iaload, 1) := by decide +kernel
theorem d_Sy_addMissing_59 : decode b_Sy_addMissing 59 = .ok (.invokevirtual 36, 3) := by decide +kernel
theorem d_Sy_addMissing_62 : decode b_Sy_addMissing 62 = .ok (.iinc 4 (1), 3) := by decide +kernel
theorem d_Sy_addMissing_65 : decode b_Sy_addMissing 65 = .ok (.goto (-38), 3) := by decide +kernel
theorem d_Sy_addMissing_68 : decode b_Sy_addMissing 68 = .ok (.iinc 2 (1), 3) := by decide +kernel
theorem d_Sy_addMissing_71 : decode b_Sy_addMissing 71 = .ok (.goto (-69), 3) := by decide +kernel
theorem d_Sy_addMissing_74 : decode b_Sy_addMissing 74 = .ok (.return_, 1) := by decide +kernel
theorem d_Sc_init_0 : decode b_Sc_init 0 = .ok (.aload_n 0, 1) := by decide +kernel
theorem d_Sc_init_1 : decode b_Sc_init 1 = .ok (.invokespecial 3, 3) := by decide +kernel
theorem d_Sc_init_4 : decode b_Sc_init 4 = .ok (.aload_n 0, 1) := by decide +kernel
theorem d_Sc_init_5 : decode b_Sc_init 5 = .ok (.bipush (48), 2) := by decide +kernel
theorem d_Sc_init_7 : decode b_Sc_init 7 = .ok (.newarray .int, 2) := by decide +kernel
theorem d_Sc_init_9 : decode b_Sc_init 9 = .ok (.putfield 9, 3) := by decide +kernel
theorem d_Sc_init_12 : decode b_Sc_init 12 = .ok (.aload_n 0, 1) := by decide +kernel
theorem d_Sc_init_13 : decode b_Sc_init 13 = .ok (.iconst (0), 1) := by decide +kernel
theorem d_Sc_init_14 : decode b_Sc_init 14 = .ok (.putfield 15, 3) := by decide +kernel
theorem d_Sc_init_17 : decode b_Sc_init 17 = .ok (.return_, 1) := by decide +kernel
theorem d_Sc_append_0 : decode b_Sc_append 0 = .ok (.aload_n 0, 1) := by decide +kernel
theorem d_Sc_append_1 : decode b_Sc_append 1 = .ok (.getfield 15, 3) := by decide +kernel
theorem d_Sc_append_4 : decode b_Sc_append 4 = .ok (.iload_n 3, 1) := by decide +kernel
theorem d_Sc_append_5 : decode b_Sc_append 5 = .ok (.iadd, 1) := by decide +kernel
theorem d_Sc_append_6 : decode b_Sc_append 6 = .ok (.bipush (48), 2) := by decide +kernel
theorem d_Sc_append_8 : decode b_Sc_append 8 = .ok (.if_icmp .le (5), 3) := by decide +kernel
theorem d_Sc_append_11 : decode b_Sc_append 11 = .ok (.iconst (-1), 1) := by decide +kernel
theorem d_Sc_append_12 : decode b_Sc_append 12 = .ok (.ireturn, 1) := by decide +kernel
theorem d_Sc_append_13 : decode b_Sc_append 13 = .ok (.iload_n 3, 1) := by decide +kernel
theorem d_Sc_append_14 : decode b_Sc_append 14 = .ok (.iconst (1), 1) := by decide +kernel
theorem d_Sc_append_15 : decode b_Sc_append 15 = .ok (.isub, 1) := by decide +kernel
theorem d_Sc_append_16 : decode b_Sc_append 16 = .ok (.istore 4, 2) := by decide +kernel
theorem d_Sc_append_18 : decode b_Sc_append 18 = .ok (.iload 4, 2) := by decide +kernel
theorem d_Sc_append_20 : decode b_Sc_append 20 = .ok (.ifCond .lt (40), 3) := by decide +kernel
theorem d_Sc_append_23 : decode b_Sc_append 23 = .ok (.aload_n 0, 1) := by decide +kernel
theorem d_Sc_append_24 : decode b_Sc_append 24 = .ok (.getfield 9, 3) := by decide +kernel
theorem d_Sc_append_27 : decode b_Sc_append 27 = .ok (.aload_n 0, 1) := by decide +kernel
theorem d_Sc_append_28 : decode b_Sc_append 28 = .ok (.getfield 15, 3) := by decide +kernel
theorem d_Sc_append_31 : decode b_Sc_append 31 = .ok (.lload_n 1, 1) := by decide +kernel
theorem d_Sc_append_32 : decode b_Sc_append 32 = .ok (.bipush (8), 2) := by decide +kernel
theorem d_Sc_append_34 : decode b_Sc_append 34 = .ok (.iload 4, 2) := by decide +kernel
theorem d_Sc_append_36 : decode b_Sc_append 36 = .ok (.imul, 1) := by decide +kernel
theorem d_Sc_append_37 : decode b_Sc_append 37 = .ok (.lushr, 1) := by decide +kernel
theorem d_Sc_append_38 : decode b_Sc_append 38 = .ok (.l2i, 1) := by decide +kernel
theorem d_Sc_append_39 : decode b_Sc_append 39 = .ok (.sipush (255), 3) := by decide +kernel
theorem d_Sc_append_42 : decode b_Sc_append 42 = .ok (.iand, 1) := by decide +kernel
theorem d_Sc_append_43 : decode b_Sc_append 43 = .ok (.iastore, 1) := by decide +kernel
theorem d_Sc_append_44 : decode b_Sc_append 44 = .ok (.aload_n 0, 1) := by decide +kernel
theorem d_Sc_append_45 : decode b_Sc_append 45 = .ok (.dup, 1) := by decide +kernel
theorem d_Sc_append_46 : decode b_Sc_append 46 = .ok (.getfield 15, 3) := by decide +kernel
theorem d_Sc_append_49 : decode b_Sc_append 49 = .ok (.iconst (1), 1) := by decide +kernel
theorem d_Sc_append_50 : decode b_Sc_append 50 = .ok (.iadd, 1) := by decide +kernel
theorem d_Sc_append_51 : decode b_Sc_append 51 = .ok (.putfield 15, 3) := by decide +kernel
theorem d_Sc_append_54 : decode b_Sc_append 54 = .ok (.iinc 4 (-1), 3) := by decide +kernel
theorem d_Sc_append_57 : decode b_Sc_append 57 = .ok (.goto (-39), 3) := by decide +kernel
theorem d_Sc_append_60 : decode b_Sc_append 60 = .ok (.aload_n 0, 1) := by decide +kernel
theorem d_Sc_append_61 : decode b_Sc_append 61 = .ok (.getfield 15, 3) := by decide +kernel
theorem d_Sc_append_64 : decode b_Sc_append 64 = .ok (.ireturn, 1) := by decide +kernel
theorem d_Sc_at_0 : decode b_Sc_at 0 = .ok (.iload_n 1, 1) := by decide +kernel
theorem d_Sc_at_1 : decode b_Sc_at 1 = .ok (.ifCond .lt (20), 3) := by decide +kernel
theorem d_Sc_at_4 : decode b_Sc_at 4 = .ok (.iload_n 1, 1) := by decide +kernel
theorem d_Sc_at_5 : decode b_Sc_at 5 = .ok (.aload_n 0, 1) := by decide +kernel
theorem d_Sc_at_6 : decode b_Sc_at 6 = .ok (.getfield 15, 3) := by decide +kernel
theorem d_Sc_at_9 : decode b_Sc_at 9 = .ok (.if_icmp .ge (12), 3) := by decide +kernel
theorem d_Sc_at_12 : decode b_Sc_at 12 = .ok (.aload_n 0, 1) := by decide +kernel
theorem d_Sc_at_13 : decode b_Sc_at 13 = .ok (.getfield 9, 3) := by decide +kernel
theorem d_Sc_at_16 : decode b_Sc_at 16 = .ok (.iload_n 1, 1) := by decide +kernel
theorem d_Sc_at_17 : decode b_Sc_at 17 = .ok (.iaload, 1) := by decide +kernel
theorem d_Sc_at_18 : decode b_Sc_at 18 = .ok (.goto (4), 3) := by decide +kernel
theorem d_Sc_at_21 : decode b_Sc_at 21 = .ok (.iconst (-1), 1) := by decide +kernel
theorem d_Sc_at_22 : decode b_Sc_at 22 = .ok (.ireturn, 1) := by decide +kernel
theorem d_Tr_init_0 : decode b_Tr_init 0 = .ok (.aload_n 0, 1) := by decide +kernel
theorem d_Tr_init_1 : decode b_Tr_init 1 = .ok (.invokespecial 3, 3) := by decide +kernel
theorem d_Tr_init_4 : decode b_Tr_init 4 = .ok (.aload_n 0, 1) := by decide +kernel
theorem d_Tr_init_5 : decode b_Tr_init 5 = .ok (.iconst (0), 1) := by decide +kernel
theorem d_Tr_init_6 : decode b_Tr_init 6 = .ok (.putfield 9, 3) := by decide +kernel
theorem d_Tr_init_9 : decode b_Tr_init 9 = .ok (.aload_n 0, 1) := by decide +kernel
theorem d_Tr_init_10 : decode b_Tr_init 10 = .ok (.iconst (0), 1) := by decide +kernel
theorem d_Tr_init_11 : decode b_Tr_init 11 = .ok (.putfield 15, 3) := by decide +kernel
theorem d_Tr_init_14 : decode b_Tr_init 14 = .ok (.aload_n 0, 1) := by decide +kernel
theorem d_Tr_init_15 : decode b_Tr_init 15 = .ok (.iconst (0), 1) := by decide +kernel
theorem d_Tr_init_16 : decode b_Tr_init 16 = .ok (.putfield 18, 3) := by decide +kernel
theorem d_Tr_init_19 : decode b_Tr_init 19 = .ok (.aload_n 0, 1) := by decide +kernel
theorem d_Tr_init_20 : decode b_Tr_init 20 = .ok (.iconst (0), 1) := by decide +kernel
theorem d_Tr_init_21 : decode b_Tr_init 21 = .ok (.putfield 21, 3) := by decide +kernel
theorem d_Tr_init_24 : decode b_Tr_init 24 = .ok (.aload_n 0, 1) := by decide +kernel
theorem d_Tr_init_25 : decode b_Tr_init 25 = .ok (.iconst (0), 1) := by decide +kernel
theorem d_Tr_init_26 : decode b_Tr_init 26 = .ok (.putfield 24, 3) := by decide +kernel
theorem d_Tr_init_29 : decode b_Tr_init 29 = .ok (.aload_n 0, 1) := by decide +kernel
theorem d_Tr_init_30 : decode b_Tr_init 30 = .ok (.iconst (0), 1) := by decide +kernel
theorem d_Tr_init_31 : decode b_Tr_init 31 = .ok (.putfield 27, 3) := by decide +kernel
theorem d_Tr_init_34 : decode b_Tr_init 34 = .ok (.aload_n 0, 1) := by decide +kernel
theorem d_Tr_init_35 : decode b_Tr_init 35 = .ok (.iconst (0), 1) := by decide +kernel
theorem d_Tr_init_36 : decode b_Tr_init 36 = .ok (.putfield 30, 3) := by decide +kernel
theorem d_Tr_init_39 : decode b_Tr_init 39 = .ok (.aload_n 0, 1) := by decide +kernel
theorem d_Tr_init_40 : decode b_Tr_init 40 = .ok (.iconst (0), 1) := by decide +kernel
theorem d_Tr_init_41 : decode b_Tr_init 41 = .ok (.putfield 33, 3) := by decide +kernel
theorem d_Tr_init_44 : decode b_Tr_init 44 = .ok (.aload_n 0, 1) := by decide +kernel
theorem d_Tr_init_45 : decode b_Tr_init 45 = .ok (.iconst (0), 1) := by decide +kernel
theorem d_Tr_init_46 : decode b_Tr_init 46 = .ok (.putfield 37, 3) := by decide +kernel
theorem d_Tr_init_49 : decode b_Tr_init 49 = .ok (.aload_n 0, 1) := by decide +kernel
theorem d_Tr_init_50 : decode b_Tr_init 50 = .ok (.iconst (0), 1) := by decide +kernel
theorem d_Tr_init_51 : decode b_Tr_init 51 = .ok (.putfield 40, 3) := by decide +kernel
theorem d_Tr_init_54 : decode b_Tr_init 54 = .ok (.aload_n 0, 1) := by decide +kernel
theorem d_Tr_init_55 : decode b_Tr_init 55 = .ok (.bipush (6), 2) := by decide +kernel
theorem d_Tr_init_57 : decode b_Tr_init 57 = .ok (.newarray .long, 2) := by decide +kernel
theorem d_Tr_init_59 : decode b_Tr_init 59 = .ok (.putfield 43, 3) := by decide +kernel
theorem d_Tr_init_62 : decode b_Tr_init 62 = .ok (.aload_n 0, 1) := by decide +kernel
theorem d_Tr_init_63 : decode b_Tr_init 63 = .ok (.bipush (8), 2) := by decide +kernel
theorem d_Tr_init_65 : decode b_Tr_init 65 = .ok (.newarray .long, 2) := by decide +kernel
theorem d_Tr_init_67 : decode b_Tr_init 67 = .ok (.putfield 47, 3) := by decide +kernel
theorem d_Tr_init_70 : decode b_Tr_init 70 = .ok (.aload_n 0, 1) := by decide +kernel
theorem d_Tr_init_71 : decode b_Tr_init 71 = .ok (.bipush (8), 2) := by decide +kernel
theorem d_Tr_init_73 : decode b_Tr_init 73 = .ok (.newarray .long, 2) := by decide +kernel
theorem d_Tr_init_75 : decode b_Tr_init 75 = .ok (.putfield 50, 3) := by decide +kernel
theorem d_Tr_init_78 : decode b_Tr_init 78 = .ok (.return_, 1) := by decide +kernel
theorem d_Tr_begin_0 : decode b_Tr_begin 0 = .ok (.aload_n 0, 1) := by decide +kernel
theorem d_Tr_begin_1 : decode b_Tr_begin 1 = .ok (.iload_n 1, 1) := by decide +kernel
theorem d_Tr_begin_2 : decode b_Tr_begin 2 = .ok (.putfield 9, 3) := by decide +kernel
theorem d_Tr_begin_5 : decode b_Tr_begin 5 = .ok (.aload_n 0, 1) := by decide +kernel
theorem d_Tr_begin_6 : decode b_Tr_begin 6 = .ok (.iload_n 2, 1) := by decide +kernel
theorem d_Tr_begin_7 : decode b_Tr_begin 7 = .ok (.putfield 15, 3) := by decide +kernel
theorem d_Tr_begin_10 : decode b_Tr_begin 10 = .ok (.aload_n 0, 1) := by decide +kernel
theorem d_Tr_begin_11 : decode b_Tr_begin 11 = .ok (.iconst (0), 1) := by decide +kernel
theorem d_Tr_begin_12 : decode b_Tr_begin 12 = .ok (.putfield 18, 3) := by decide +kernel
theorem d_Tr_begin_15 : decode b_Tr_begin 15 = .ok (.aload_n 0, 1) := by decide +kernel
theorem d_Tr_begin_16 : decode b_Tr_begin 16 = .ok (.iload_n 3, 1) := by decide +kernel
theorem d_Tr_begin_17 : decode b_Tr_begin 17 = .ok (.putfield 21, 3) := by decide +kernel
theorem d_Tr_begin_20 : decode b_Tr_begin 20 = .ok (.aload_n 0, 1) := by decide +kernel
theorem d_Tr_begin_21 : decode b_Tr_begin 21 = .ok (.iconst (0), 1) := by decide +kernel
theorem d_Tr_begin_22 : decode b_Tr_begin 22 = .ok (.putfield 24, 3) := by decide +kernel
theorem d_Tr_begin_25 : decode b_Tr_begin 25 = .ok (.aload_n 0, 1) := by decide +kernel
theorem d_Tr_begin_26 : decode b_Tr_begin 26 = .ok (.iconst (0), 1) := by decide +kernel
theorem d_Tr_begin_27 : decode b_Tr_begin 27 = .ok (.putfield 27, 3) := by decide +kernel
theorem d_Tr_begin_30 : decode b_Tr_begin 30 = .ok (.aload_n 0, 1) := by decide +kernel
theorem d_Tr_begin_31 : decode b_Tr_begin 31 = .ok (.iconst (0), 1) := by decide +kernel
theorem d_Tr_begin_32 : decode b_Tr_begin 32 = .ok (.putfield 30, 3) := by decide +kernel
theorem d_Tr_begin_35 : decode b_Tr_begin 35 = .ok (.aload_n 0, 1) := by decide +kernel
theorem d_Tr_begin_36 : decode b_Tr_begin 36 = .ok (.iconst (0), 1) := by decide +kernel
theorem d_Tr_begin_37 : decode b_Tr_begin 37 = .ok (.putfield 33, 3) := by decide +kernel
theorem d_Tr_begin_40 : decode b_Tr_begin 40 = .ok (.aload_n 0, 1) := by decide +kernel
theorem d_Tr_begin_41 : decode b_Tr_begin 41 = .ok (.iconst (0), 1) := by decide +kernel
theorem d_Tr_begin_42 : decode b_Tr_begin 42 = .ok (.putfield 37, 3) := by decide +kernel
theorem d_Tr_begin_45 : decode b_Tr_begin 45 = .ok (.aload_n 0, 1) := by decide +kernel
theorem d_Tr_begin_46 : decode b_Tr_begin 46 = .ok (.iconst (0), 1) := by decide +kernel
theorem d_Tr_begin_47 : decode b_Tr_begin 47 = .ok (.putfield 40, 3) := by decide +kernel
theorem d_Tr_begin_50 : decode b_Tr_begin 50 = .ok (.return_, 1) := by decide +kernel
theorem d_Tr_copyFrom_0 : decode b_Tr_copyFrom 0 = .ok (.aload_n 0, 1) := by decide +kernel
theorem d_Tr_copyFrom_1 : decode b_Tr_copyFrom 1 = .ok (.aload_n 1, 1) := by decide +kernel
theorem d_Tr_copyFrom_2 : decode b_Tr_copyFrom 2 = .ok (.getfield 9, 3) := by decide +kernel
theorem d_Tr_copyFrom_5 : decode b_Tr_copyFrom 5 = .ok (.putfield 9, 3) := by decide +kernel
theorem d_Tr_copyFrom_8 : decode b_Tr_copyFrom 8 = .ok (.aload_n 0, 1) := by decide +kernel
theorem d_Tr_copyFrom_9 : decode b_Tr_copyFrom 9 = .ok (.aload_n 1, 1) := by decide +kernel
theorem d_Tr_copyFrom_10 : decode b_Tr_copyFrom 10 = .ok (.getfield 15, 3) := by decide +kernel
theorem d_Tr_copyFrom_13 : decode b_Tr_copyFrom 13 = .ok (.putfield 15, 3) := by decide +kernel
theorem d_Tr_copyFrom_16 : decode b_Tr_copyFrom 16 = .ok (.aload_n 0, 1) := by decide +kernel
theorem d_Tr_copyFrom_17 : decode b_Tr_copyFrom 17 = .ok (.aload_n 1, 1) := by decide +kernel
theorem d_Tr_copyFrom_18 : decode b_Tr_copyFrom 18 = .ok (.getfield 18, 3) := by decide +kernel
theorem d_Tr_copyFrom_21 : decode b_Tr_copyFrom 21 = .ok (.putfield 18, 3) := by decide +kernel
theorem d_Tr_copyFrom_24 : decode b_Tr_copyFrom 24 = .ok (.aload_n 0, 1) := by decide +kernel
theorem d_Tr_copyFrom_25 : decode b_Tr_copyFrom 25 = .ok (.aload_n 1, 1) := by decide +kernel
theorem d_Tr_copyFrom_26 : decode b_Tr_copyFrom 26 = .ok (.getfield 21, 3) := by decide +kernel
theorem d_Tr_copyFrom_29 : decode b_Tr_copyFrom 29 = .ok (.putfield 21, 3) := by decide +kernel
theorem d_Tr_copyFrom_32 : decode b_Tr_copyFrom 32 = .ok (.aload_n 0, 1) := by decide +kernel
theorem d_Tr_copyFrom_33 : decode b_Tr_copyFrom 33 = .ok (.aload_n 1, 1) := by decide +kernel
theorem d_Tr_copyFrom_34 : decode b_Tr_copyFrom 34 = .ok (.getfield 24, 3) := by decide +kernel
theorem d_Tr_copyFrom_37 : decode b_Tr_copyFrom 37 = .ok (.putfield 24, 3) := by decide +kernel
theorem d_Tr_copyFrom_40 : decode b_Tr_copyFrom 40 = .ok (.aload_n 0, 1) := by decide +kernel
theorem d_Tr_copyFrom_41 : decode b_Tr_copyFrom 41 = .ok (.aload_n 1, 1) := by decide +kernel
theorem d_Tr_copyFrom_42 : decode b_Tr_copyFrom 42 = .ok (.getfield 27, 3) := by decide +kernel
theorem d_Tr_copyFrom_45 : decode b_Tr_copyFrom 45 = .ok (.putfield 27, 3) := by decide +kernel
theorem d_Tr_copyFrom_48 : decode b_Tr_copyFrom 48 = .ok (.aload_n 0, 1) := by decide +kernel
theorem d_Tr_copyFrom_49 : decode b_Tr_copyFrom 49 = .ok (.aload_n 1, 1) := by decide +kernel
theorem d_Tr_copyFrom_50 : decode b_Tr_copyFrom 50 = .ok (.getfield 30, 3) := by decide +kernel
theorem d_Tr_copyFrom_53 : decode b_Tr_copyFrom 53 = .ok (.putfield 30, 3) := by decide +kernel
theorem d_Tr_copyFrom_56 : decode b_Tr_copyFrom 56 = .ok (.aload_n 0, 1) := by decide +kernel
theorem d_Tr_copyFrom_57 : decode b_Tr_copyFrom 57 = .ok (.aload_n 1, 1) := by decide +kernel
theorem d_Tr_copyFrom_58 : decode b_Tr_copyFrom 58 = .ok (.getfield 33, 3) := by decide +kernel
theorem d_Tr_copyFrom_61 : decode b_Tr_copyFrom 61 = .ok (.putfield 33, 3) := by decide +kernel
theorem d_Tr_copyFrom_64 : decode b_Tr_copyFrom 64 = .ok (.aload_n 0, 1) := by decide +kernel
theorem d_Tr_copyFrom_65 : decode b_Tr_copyFrom 65 = .ok (.aload_n 1, 1) := by decide +kernel
theorem d_Tr_copyFrom_66 : decode b_Tr_copyFrom 66 = .ok (.getfield 37, 3) := by decide +kernel
theorem d_Tr_copyFrom_69 : decode b_Tr_copyFrom 69 = .ok (.putfield 37, 3) := by decide +kernel
theorem d_Tr_copyFrom_72 : decode b_Tr_copyFrom 72 = .ok (.aload_n 0, 1) := by decide +kernel
theorem d_Tr_copyFrom_73 : decode b_Tr_copyFrom 73 = .ok (.aload_n 1, 1) := by decide +kernel
theorem d_Tr_copyFrom_74 : decode b_Tr_copyFrom 74 = .ok (.getfield 40, 3) := by decide +kernel
theorem d_Tr_copyFrom_77 : decode b_Tr_copyFrom 77 = .ok (.putfield 40, 3) := by decide +kernel
theorem d_Tr_copyFrom_80 : decode b_Tr_copyFrom 80 = .ok (.aload_n 1, 1) := by decide +kernel
theorem d_Tr_copyFrom_81 : decode b_Tr_copyFrom 81 = .ok (.getfield 43, 3) := by decide +kernel
theorem d_Tr_copyFrom_84 : decode b_Tr_copyFrom 84 = .ok (.iconst (0), 1) := by decide +kernel
theorem d_Tr_copyFrom_85 : decode b_Tr_copyFrom 85 = .ok (.aload_n 0, 1) := by decide +kernel
theorem d_Tr_copyFrom_86 : decode b_Tr_copyFrom 86 = .ok (.getfield 43, 3) := by decide +kernel
theorem d_Tr_copyFrom_89 : decode b_Tr_copyFrom 89 = .ok (.iconst (0), 1) := by decide +kernel
theorem d_Tr_copyFrom_90 : decode b_Tr_copyFrom 90 = .ok (.aload_n 0, 1) := by decide +kernel
theorem d_Tr_copyFrom_91 : decode b_Tr_copyFrom 91 = .ok (.getfield 37, 3) := by decide +kernel
theorem d_Tr_copyFrom_94 : decode b_Tr_copyFrom 94 = .ok (.invokestatic 53, 3) := by decide +kernel
theorem d_Tr_copyFrom_97 : decode b_Tr_copyFrom 97 = .ok (.aload_n 1, 1) := by decide +kernel
theorem d_Tr_copyFrom_98 : decode b_Tr_copyFrom 98 = .ok (.getfield 47, 3) := by decide +kernel
theorem d_Tr_copyFrom_101 : decode b_Tr_copyFrom 101 = .ok (.iconst (0), 1) := by decide +kernel
theorem d_Tr_copyFrom_102 : decode b_Tr_copyFrom 102 = .ok (.aload_n 0, 1) := by decide +kernel
theorem d_Tr_copyFrom_103 : decode b_Tr_copyFrom 103 = .ok (.getfield 47, 3) := by decide +kernel
theorem d_Tr_copyFrom_106 : decode b_Tr_copyFrom 106 = .ok (.iconst (0), 1) := by decide +kernel
theorem d_Tr_copyFrom_107 : decode b_Tr_copyFrom 107 = .ok (.aload_n 0, 1) := by decide +kernel
theorem d_Tr_copyFrom_108 : decode b_Tr_copyFrom 108 = .ok (.getfield 40, 3) := by decide +kernel
theorem d_Tr_copyFrom_111 : decode b_Tr_copyFrom 111 = .ok (.invokestatic 53, 3) := by decide +kernel
theorem d_Tr_copyFrom_114 : decode b_Tr_copyFrom 114 = .ok (.aload_n 1, 1) := by decide +kernel
theorem d_Tr_copyFrom_115 : decode b_Tr_copyFrom 115 = .ok (.getfield 50, 3) := by decide +kernel
theorem d_Tr_copyFrom_118 : decode b_Tr_copyFrom 118 = .ok (.iconst (0), 1) := by decide +kernel
theorem d_Tr_copyFrom_119 : decode b_Tr_copyFrom 119 = .ok (.aload_n 0, 1) := by decide +kernel
theorem d_Tr_copyFrom_120 : decode b_Tr_copyFrom 120 = .ok (.getfield 50, 3) := by decide +kernel
theorem d_Tr_copyFrom_123 : decode b_Tr_copyFrom 123 = .ok (.iconst (0), 1) := by decide +kernel
theorem d_Tr_copyFrom_124 : decode b_Tr_copyFrom 124 = .ok (.aload_n 0, 1) := by decide +kernel
theorem d_Tr_copyFrom_125 : decode b_Tr_copyFrom 125 = .ok (.getfield 40, 3) := by decide +kernel
theorem d_Tr_copyFrom_128 : decode b_Tr_copyFrom 128 = .ok (.invokestatic 53, 3) := by decide +kernel
theorem d_Tr_copyFrom_131 : decode b_Tr_copyFrom 131 = .ok (.return_, 1) := by decide +kernel
theorem d_Tr_becomeChildOf_0 : decode b_Tr_becomeChildOf 0 = .ok (.aload_n 0, 1) := by decide +kernel
theorem d_Tr_becomeChildOf_1 : decode b_Tr_becomeChildOf 1 = .ok (.aload_n 1, 1) := by decide +kernel
theorem d_Tr_becomeChildOf_2 : decode b_Tr_becomeChildOf 2 = .ok (.invokevirtual 59, 3) := by decide +kernel
theorem d_Tr_becomeChildOf_5 : decode b_Tr_becomeChildOf 5 = .ok (.aload_n 0, 1) := by decide +kernel
theorem d_Tr_becomeChildOf_6 : decode b_Tr_becomeChildOf 6 = .ok (.aload_n 1, 1) := by decide +kernel
theorem d_Tr_becomeChildOf_7 : decode b_Tr_becomeChildOf 7 = .ok (.getfield 9, 3) := by decide +kernel
theorem d_Tr_becomeChildOf_10 : decode b_Tr_becomeChildOf 10 = .ok (.iconst (4), 1) := by decide +kernel
theorem d_Tr_becomeChildOf_11 : decode b_Tr_becomeChildOf 11 = .ok (.iadd, 1) := by decide +kernel
theorem d_Tr_becomeChildOf_12 : decode b_Tr_becomeChildOf 12 = .ok (.putfield 9, 3) := by decide +kernel
theorem d_Tr_becomeChildOf_15 : decode b_Tr_becomeChildOf 15 = .ok (.aload_n 0, 1) := by decide +kernel
theorem d_Tr_becomeChildOf_16 : decode b_Tr_becomeChildOf 16 = .ok (.iload_n 2, 1) := by decide +kernel
theorem d_Tr_becomeChildOf_17 : decode b_Tr_becomeChildOf 17 = .ok (.putfield 21, 3) := by decide +kernel
theorem d_Tr_becomeChildOf_20 : decode b_Tr_becomeChildOf 20 = .ok (.aload_n 0, 1) := by decide +kernel
theorem d_Tr_becomeChildOf_21 : decode b_Tr_becomeChildOf 21 = .ok (.iconst (0), 1) := by decide +kernel
theorem d_Tr_becomeChildOf_22 : decode b_Tr_becomeChildOf 22 = .ok (.putfield 24, 3) := by decide +kernel
theorem d_Tr_becomeChildOf_25 : decode b_Tr_becomeChildOf 25 = .ok (.aload_n 0, 1) := by decide +kernel
theorem d_Tr_becomeChildOf_26 : decode b_Tr_becomeChildOf 26 = .ok (.iconst (0), 1) := by decide +kernel
theorem d_Tr_becomeChildOf_27 : decode b_Tr_becomeChildOf 27 = .ok (.putfield 27, 3) := by decide +kernel
theorem d_Tr_becomeChildOf_30 : decode b_Tr_becomeChildOf 30 = .ok (.aload_n 0, 1) := by decide +kernel
theorem d_Tr_becomeChildOf_31 : decode b_Tr_becomeChildOf 31 = .ok (.iconst (0), 1) := by decide +kernel
theorem d_Tr_becomeChildOf_32 : decode b_Tr_becomeChildOf 32 = .ok (.putfield 30, 3) := by decide +kernel
theorem d_Tr_becomeChildOf_35 : decode b_Tr_becomeChildOf 35 = .ok (.aload_n 0, 1) := by decide +kernel
theorem d_Tr_becomeChildOf_36 : decode b_Tr_becomeChildOf 36 = .ok (.iconst (0), 1) := by decide +kernel
theorem d_Tr_becomeChildOf_37 : decode b_Tr_becomeChildOf 37 = .ok (.putfield 33, 3) := by decide +kernel
theorem d_Tr_becomeChildOf_40 : decode b_Tr_becomeChildOf 40 = .ok (.aload_n 0, 1) := by decide +kernel
theorem d_Tr_becomeChildOf_41 : decode b_Tr_becomeChildOf 41 = .ok (.getfield 37, 3) := by decide +kernel
theorem d_Tr_becomeChildOf_44 : decode b_Tr_becomeChildOf 44 = .ok (.ifCond .le (15), 3) := by decide +kernel
theorem d_Tr_becomeChildOf_47 : decode b_Tr_becomeChildOf 47 = .ok (.aload_n 0, 1) := by decide +kernel
theorem d_Tr_becomeChildOf_48 : decode b_Tr_becomeChildOf 48 = .ok (.getfield 43, 3) := by decide +kernel
theorem d_Tr_becomeChildOf_51 : decode b_Tr_becomeChildOf 51 = .ok (.aload_n 0, 1) := by decide +kernel
theorem d_Tr_becomeChildOf_52 : decode b_Tr_becomeChildOf 52 = .ok (.getfield 37, 3) := by decide +kernel
theorem d_Tr_becomeChildOf_55 : decode b_Tr_becomeChildOf 55 = .ok (.iconst (1), 1) := by decide +kernel
theorem d_Tr_becomeChildOf_56 : decode b_Tr_becomeChildOf 56 = .ok (.isub, 1) := by decide +kernel
theorem d_Tr_becomeChildOf_57 : decode b_Tr_becomeChildOf 57 = .ok (.lconst 1, 1) := by decide +kernel
theorem d_Tr_becomeChildOf_58 : decode b_Tr_becomeChildOf 58 = .ok (.lastore, 1) := by decide +kernel
theorem d_Tr_becomeChildOf_59 : decode b_Tr_becomeChildOf 59 = .ok (.return_, 1) := by decide +kernel
theorem d_Tr_push_0 : decode b_Tr_push 0 = .ok (.aload_n 0, 1) := by decide +kernel
theorem d_Tr_push_1 : decode b_Tr_push 1 = .ok (.getfield 37, 3) := by decide +kernel
theorem d_Tr_push_4 : decode b_Tr_push 4 = .ok (.bipush (6), 2) := by decide +kernel
theorem d_Tr_push_6 : decode b_Tr_push 6 = .ok (.if_icmp .ge (23), 3) := by decide +kernel
theorem d_Tr_push_9 : decode b_Tr_push 9 = .ok (.aload_n 0, 1) := by decide +kernel
theorem d_Tr_push_10 : decode b_Tr_push 10 = .ok (.getfield 43, 3) := by decide +kernel
theorem d_Tr_push_13 : decode b_Tr_push 13 = .ok (.aload_n 0, 1) := by decide +kernel
theorem d_Tr_push_14 : decode b_Tr_push 14 = .ok (.getfield 37, 3) := by decide +kernel
theorem d_Tr_push_17 : decode b_Tr_push 17 = .ok (.lload_n 1, 1) := by decide +kernel
theorem d_Tr_push_18 : decode b_Tr_push 18 = .ok (.lastore, 1) := by decide +kernel
theorem d_Tr_push_19 : decode b_Tr_push 19 = .ok (.aload_n 0, 1) := by decide +kernel
theorem d_Tr_push_20 : decode b_Tr_push 20 = .ok (.dup, 1) := by decide +kernel
theorem d_Tr_push_21 : decode b_Tr_push 21 = .ok (.getfield 37, 3) := by decide +kernel
theorem d_Tr_push_24 : decode b_Tr_push 24 = .ok (.iconst (1), 1) := by decide +kernel
theorem d_Tr_push_25 : decode b_Tr_push 25 = .ok (.iadd, 1) := by decide +kernel
theorem d_Tr_push_26 : decode b_Tr_push 26 = .ok (.putfield 37, 3) := by decide +kernel
theorem d_Tr_push_29 : decode b_Tr_push 29 = .ok (.return_, 1) := by decide +kernel
theorem d_Tr_pushPair_0 : decode b_Tr_pushPair 0 = .ok (.aload_n 0, 1) := by decide +kernel
theorem d_Tr_pushPair_1 : decode b_Tr_pushPair 1 = .ok (.getfield 40, 3) := by decide +kernel
theorem d_Tr_pushPair_4 : decode b_Tr_pushPair 4 = .ok (.bipush (8), 2) := by decide +kernel
theorem d_Tr_pushPair_6 : decode b_Tr_pushPair 6 = .ok (.if_icmp .ge (46), 3) := by decide +kernel
theorem d_Tr_pushPair_9 : decode b_Tr_pushPair 9 = .ok (.aload_n 0, 1) := by decide +kernel
theorem d_Tr_pushPair_10 : decode b_Tr_pushPair 10 = .ok (.getfield 47, 3) := by decide +kernel
theorem d_Tr_pushPair_13 : decode b_Tr_pushPair 13 = .ok (.aload_n 0, 1) := by decide +kernel
theorem d_Tr_pushPair_14 : decode b_Tr_pushPair 14 = .ok (.getfield 40, 3) := by decide +kernel
theorem d_Tr_pushPair_17 : decode b_Tr_pushPair 17 = .ok (.lload_n 1, 1) := by decide +kernel
theorem d_Tr_pushPair_18 : decode b_Tr_pushPair 18 = .ok (.lastore, 1) := by decide +kernel
theorem d_Tr_pushPair_19 : decode b_Tr_pushPair 19 = .ok (.aload_n 0, 1) := by decide +kernel
theorem d_Tr_pushPair_20 : decode b_Tr_pushPair 20 = .ok (.getfield 50, 3) := by decide +kernel
theorem d_Tr_pushPair_23 : decode b_Tr_pushPair 23 = .ok (.aload_n 0, 1) := by decide +kernel
theorem d_Tr_pushPair_24 : decode b_Tr_pushPair 24 = .ok (.getfield 40, 3) := by decide +kernel
theorem d_Tr_pushPair_27 : decode b_Tr_pushPair 27 = .ok (.lload_n 3, 1) := by decide +kernel
theorem d_Tr_pushPair_28 : decode b_Tr_pushPair 28 = .ok (.lastore, 1) := by decide +kernel
theorem d_Tr_pushPair_29 : decode b_Tr_pushPair 29 = .ok (.aload_n 0, 1) := by decide +kernel
theorem d_Tr_pushPair_30 : decode b_Tr_pushPair 30 = .ok (.ldc2_w 63, 3) := by decide +kernel
theorem d_Tr_pushPair_33 : decode b_Tr_pushPair 33 = .ok (.aload_n 0, 1) := by decide +kernel
theorem d_Tr_pushPair_34 : decode b_Tr_pushPair 34 = .ok (.getfield 40, 3) := by decide +kernel
theorem d_Tr_pushPair_37 : decode b_Tr_pushPair 37 = .ok (.i2l, 1) := by decide +kernel
theorem d_Tr_pushPair_38 : decode b_Tr_pushPair 38 = .ok (.ladd, 1) := by decide +kernel
theorem d_Tr_pushPair_39 : decode b_Tr_pushPair 39 = .ok (.invokevirtual 65, 3) := by decide +kernel
theorem d_Tr_pushPair_42 : decode b_Tr_pushPair 42 = .ok (.aload_n 0, 1) := by decide +kernel
theorem d_Tr_pushPair_43 : decode b_Tr_pushPair 43 = .ok (.dup, 1) := by decide +kernel
theorem d_Tr_pushPair_44 : decode b_Tr_pushPair 44 = .ok (.getfield 40, 3) := by decide +kernel
theorem d_Tr_pushPair_47 : decode b_Tr_pushPair 47 = .ok (.iconst (1), 1) := by decide +kernel
theorem d_Tr_pushPair_48 : decode b_Tr_pushPair 48 = .ok (.iadd, 1) := by decide +kernel
theorem d_Tr_pushPair_49 : decode b_Tr_pushPair 49 = .ok (.putfield 40, 3) := by decide +kernel
theorem d_Tr_pushPair_52 : decode b_Tr_pushPair 52 = .ok (.return_, 1) := by decide +kernel
theorem d_Tr_tell_0 : decode b_Tr_tell 0 = .ok (.iload_n 1, 1) := by decide +kernel
theorem d_Tr_tell_1 : decode b_Tr_tell 1 = .ok (.tableswitch (78) (0) (6) #[43, 48, 53, 58, 63, 68, 73], 43) := by decide +kernel
theorem d_Tr_tell_44 : decode b_Tr_tell 44 = .ok (.aload_n 0, 1) := by decide +kernel
theorem d_Tr_tell_45 : decode b_Tr_tell 45 = .ok (.getfield 18, 3) := by decide +kernel
theorem d_Tr_tell_48 : decode b_Tr_tell 48 = .ok (.ireturn, 1) := by decide +kernel
theorem d_Tr_tell_49 : decode b_Tr_tell 49 = .ok (.aload_n 0, 1) := by decide +kernel
theorem d_Tr_tell_50 : decode b_Tr_tell 50 = .ok (.getfield 24, 3) := by decide +kernel
theorem d_Tr_tell_53 : decode b_Tr_tell 53 = .ok (.ireturn, 1) := by decide +kernel
theorem d_Tr_tell_54 : decode b_Tr_tell 54 = .ok (.aload_n 0, 1) := by decide +kernel
theorem d_Tr_tell_55 : decode b_Tr_tell 55 = .ok (.getfield 21, 3) := by decide +kernel
theorem d_Tr_tell_58 : decode b_Tr_tell 58 = .ok (.ireturn, 1) := by decide +kernel
theorem d_Tr_tell_59 : decode b_Tr_tell 59 = .ok (.aload_n 0, 1) := by decide +kernel
theorem d_Tr_tell_60 : decode b_Tr_tell 60 = .ok (.getfield 27, 3) := by decide +kernel
theorem d_Tr_tell_63 : decode b_Tr_tell 63 = .ok (.ireturn, 1) := by decide +kernel
theorem d_Tr_tell_64 : decode b_Tr_tell 64 = .ok (.aload_n 0, 1) := by decide +kernel
theorem d_Tr_tell_65 : decode b_Tr_tell 65 = .ok (.getfield 30, 3) := by decide +kernel
theorem d_Tr_tell_68 : decode b_Tr_tell 68 = .ok (.ireturn, 1) := by decide +kernel
theorem d_Tr_tell_69 : decode b_Tr_tell 69 = .ok (.aload_n 0, 1) := by decide +kernel
theorem d_Tr_tell_70 : decode b_Tr_tell 70 = .ok (.getfield 37, 3) := by decide +kernel
theorem d_Tr_tell_73 : decode b_Tr_tell 73 = .ok (.ireturn, 1) := by decide +kernel
theorem d_Tr_tell_74 : decode b_Tr_tell 74 = .ok (.aload_n 0, 1) := by decide +kernel
theorem d_Tr_tell_75 : decode b_Tr_tell 75 = .ok (.getfield 40, 3) := by decide +kernel
theorem d_Tr_tell_78 : decode b_Tr_tell 78 = .ok (.ireturn, 1) := by decide +kernel
theorem d_Tr_tell_79 : decode b_Tr_tell 79 = .ok (.iload_n 1, 1) := by decide +kernel
theorem d_Tr_tell_80 : decode b_Tr_tell 80 = .ok (.bipush (10), 2) := by decide +kernel
theorem d_Tr_tell_82 : decode b_Tr_tell 82 = .ok (.if_icmp .lt (14), 3) := by decide +kernel
theorem d_Tr_tell_85 : decode b_Tr_tell 85 = .ok (.iload_n 1, 1) := by decide +kernel
theorem d_Tr_tell_86 : decode b_Tr_tell 86 = .ok (.bipush (10), 2) := by decide +kernel
theorem d_Tr_tell_88 : decode b_Tr_tell 88 = .ok (.isub, 1) := by decide +kernel
theorem d_Tr_tell_89 : decode b_Tr_tell 89 = .ok (.aload_n 0, 1) := by decide +kernel
theorem d_Tr_tell_90 : decode b_Tr_tell 90 = .ok (.getfield 37, 3) := by decide +kernel
theorem d_Tr_tell_93 : decode b_Tr_tell 93 = .ok (.if_icmp .lt (5), 3) := by decide +kernel
theorem d_Tr_tell_96 : decode b_Tr_tell 96 = .ok (.iconst (-1), 1) := by decide +kernel
theorem d_Tr_tell_97 : decode b_Tr_tell 97 = .ok (.ireturn, 1) := by decide +kernel
theorem d_Tr_tell_98 : decode b_Tr_tell 98 = .ok (.aload_n 0, 1) := by decide +kernel
theorem d_Tr_tell_99 : decode b_Tr_tell 99 = .ok (.getfield 43, 3) := by decide +kernel
theorem d_Tr_tell_102 : decode b_Tr_tell 102 = .ok (.iload_n 1, 1) := by decide +kernel
theorem d_Tr_tell_103 : decode b_Tr_tell 103 = .ok (.bipush (10), 2) := by decide +kernel
theorem d_Tr_tell_105 : decode b_Tr_tell 105 = .ok (.isub, 1) := by decide +kernel
theorem d_Tr_tell_106 : decode b_Tr_tell 106 = .ok (.laload, 1) := by decide +kernel
theorem d_Tr_tell_107 : decode b_Tr_tell 107 = .ok (.invokestatic 69, 3) := by decide +kernel
theorem d_Tr_tell_110 : decode b_Tr_tell 110 = .ok (.ifCond .eq (7), 3) := by decide +kernel
theorem d_Tr_tell_113 : decode b_Tr_tell 113 = .ok (.iconst (1), 1) := by decide +kernel
theorem d_Tr_tell_114 : decode b_Tr_tell 114 = .ok (.goto (4), 3) := by decide +kernel
theorem d_Tr_tell_117 : decode b_Tr_tell 117 = .ok (.iconst (0), 1) := by decide +kernel
theorem d_Tr_tell_118 : decode b_Tr_tell 118 = .ok (.ireturn, 1) := by decide +kernel
theorem d_Wi_init_0 : decode b_Wi_init 0 = .ok (.aload_n 0, 1) := by decide +kernel
theorem d_Wi_init_1 : decode b_Wi_init 1 = .ok (.invokespecial 3, 3) := by decide +kernel
theorem d_Wi_init_4 : decode b_Wi_init 4 = .ok (.aload_n 0, 1) := by decide +kernel
theorem d_Wi_init_5 : decode b_Wi_init 5 = .ok (.bipush (20), 2) := by decide +kernel
theorem d_Wi_init_7 : decode b_Wi_init 7 = .ok (.anewarray 9, 3) := by decide +kernel
theorem d_Wi_init_10 : decode b_Wi_init 10 = .ok (.putfield 11, 3) := by decide +kernel
theorem d_Wi_init_13 : decode b_Wi_init 13 = .ok (.aload_n 0, 1) := by decide +kernel
theorem d_Wi_init_14 : decode b_Wi_init 14 = .ok (.iconst (0), 1) := by decide +kernel
theorem d_Wi_init_15 : decode b_Wi_init 15 = .ok (.putfield 17, 3) := by decide +kernel
theorem d_Wi_init_18 : decode b_Wi_init 18 = .ok (.aload_n 0, 1) := by decide +kernel
theorem d_Wi_init_19 : decode b_Wi_init 19 = .ok (.new 9, 3) := by decide +kernel
theorem d_Wi_init_22 : decode b_Wi_init 22 = .ok (.dup, 1) := by decide +kernel
theorem d_Wi_init_23 : decode b_Wi_init 23 = .ok (.invokespecial 21, 3) := by decide +kernel
theorem d_Wi_init_26 : decode b_Wi_init 26 = .ok (.putfield 22, 3) := by decide +kernel
theorem d_Wi_init_29 : decode b_Wi_init 29 = .ok (.iconst (0), 1) := by decide +kernel
theorem d_Wi_init_30 : decode b_Wi_init 30 = .ok (.istore_n 1, 1) := by decide +kernel
theorem d_Wi_init_31 : decode b_Wi_init 31 = .ok (.iload_n 1, 1) := by decide +kernel
theorem d_Wi_init_32 : decode b_Wi_init 32 = .ok (.bipush (20), 2) := by decide +kernel
theorem d_Wi_init_34 : decode b_Wi_init 34 = .ok (.if_icmp .ge (22), 3) := by decide +kernel
theorem d_Wi_init_37 : decode b_Wi_init 37 = .ok (.aload_n 0, 1) := by decide +kernel
theorem d_Wi_init_38 : decode b_Wi_init 38 = .ok (.getfield 11, 3) := by decide +kernel
theorem d_Wi_init_41 : decode b_Wi_init 41 = .ok (.iload_n 1, 1) := by decide +kernel
theorem d_Wi_init_42 : decode b_Wi_init 42 = .ok (.new 9, 3) := by decide +kernel
theorem d_Wi_init_45 : decode b_Wi_init 45 = .ok (.dup, 1) := by decide +kernel
theorem d_Wi_init_46 : decode b_Wi_init 46 = .ok (.invokespecial 21, 3) := by decide +kernel
theorem d_Wi_init_49 : decode b_Wi_init 49 = .ok (.aastore, 1) := by decide +kernel
theorem d_Wi_init_50 : decode b_Wi_init 50 = .ok (.iinc 1 (1), 3) := by decide +kernel
theorem d_Wi_init_53 : decode b_Wi_init 53 = .ok (.goto (-22), 3) := by decide +kernel
theorem d_Wi_init_56 : decode b_Wi_init 56 = .ok (.return_, 1) := by decide +kernel
theorem d_Wi_has_0 : decode b_Wi_has 0 = .ok (.iload_n 1, 1) := by decide +kernel
theorem d_Wi_has_1 : decode b_Wi_has 1 = .ok (.ifCond .lt (15), 3) := by decide +kernel
theorem d_Wi_has_4 : decode b_Wi_has 4 = .ok (.iload_n 1, 1) := by decide +kernel
theorem d_Wi_has_5 : decode b_Wi_has 5 = .ok (.aload_n 0, 1) := by decide +kernel
theorem d_Wi_has_6 : decode b_Wi_has 6 = .ok (.getfield 17, 3) := by decide +kernel
theorem d_Wi_has_9 : decode b_Wi_has 9 = .ok (.if_icmp .ge (7), 3) := by decide +kernel
theorem d_Wi_has_12 : decode b_Wi_has 12 = .ok (.iconst (1), 1) := by decide +kernel
theorem d_Wi_has_13 : decode b_Wi_has 13 = .ok (.goto (4), 3) := by decide +kernel
theorem d_Wi_has_16 : decode b_Wi_has 16 = .ok (.iconst (0), 1) := by decide +kernel
theorem d_Wi_has_17 : decode b_Wi_has 17 = .ok (.ireturn, 1) := by decide +kernel
theorem d_Wi_isFull_0 : decode b_Wi_isFull 0 = .ok (.aload_n 0, 1) := by decide +kernel
theorem d_Wi_isFull_1 : decode b_Wi_isFull 1 = .ok (.getfield 17, 3) := by decide +kernel
theorem d_Wi_isFull_4 : decode b_Wi_isFull 4 = .ok (.bipush (20), 2) := by decide +kernel
theorem d_Wi_isFull_6 : decode b_Wi_isFull 6 = .ok (.if_icmp .lt (7), 3) := by decide +kernel
theorem d_Wi_isFull_9 : decode b_Wi_isFull 9 = .ok (.iconst (1), 1) := by decide +kernel
theorem d_Wi_isFull_10 : decode b_Wi_isFull 10 = .ok (.goto (4), 3) := by decide +kernel
theorem d_Wi_isFull_13 : decode b_Wi_isFull 13 = .ok (.iconst (0), 1) := by decide +kernel
theorem d_Wi_isFull_14 : decode b_Wi_isFull 14 = .ok (.ireturn, 1) := by decide +kernel
theorem d_Wi_sendArrival_0 : decode b_Wi_sendArrival 0 = .ok (.aload_n 0, 1) := by decide +kernel
theorem d_Wi_sendArrival_1 : decode b_Wi_sendArrival 1 = .ok (.invokevirtual 26, 3) := by decide +kernel
theorem d_Wi_sendArrival_4 : decode b_Wi_sendArrival 4 = .ok (.ifCond .ne (48), 3) := by decide +kernel
theorem d_Wi_sendArrival_7 : decode b_Wi_sendArrival 7 = .ok (.aload_n 0, 1) := by decide +kernel
theorem d_Wi_sendArrival_8 : decode b_Wi_sendArrival 8 = .ok (.getfield 11, 3) := by decide +kernel
theorem d_Wi_sendArrival_11 : decode b_Wi_sendArrival 11 = .ok (.aload_n 0, 1) := by decide +kernel
theorem d_Wi_sendArrival_12 : decode b_Wi_sendArrival 12 = .ok (.getfield 17, 3) := by decide +kernel
theorem d_Wi_sendArrival_15 : decode b_Wi_sendArrival 15 = .ok (.aaload, 1) := by decide +kernel
theorem d_Wi_sendArrival_16 : decode b_Wi_sendArrival 16 = .ok (.aload_n 1, 1) := by decide +kernel
theorem d_Wi_sendArrival_17 : decode b_Wi_sendArrival 17 = .ok (.getfield 30, 3) := by decide +kernel
theorem d_Wi_sendArrival_20 : decode b_Wi_sendArrival 20 = .ok (.aload_n 1, 1) := by decide +kernel
theorem d_Wi_sendArrival_21 : decode b_Wi_sendArrival 21 = .ok (.getfield 35, 3) := by decide +kernel
theorem d_Wi_sendArrival_24 : decode b_Wi_sendArrival 24 = .ok (.iload_n 2, 1) := by decide +kernel
theorem d_Wi_sendArrival_25 : decode b_Wi_sendArrival 25 = .ok (.iload_n 3, 1) := by decide +kernel
theorem d_Wi_sendArrival_26 : decode b_Wi_sendArrival 26 = .ok (.invokevirtual 38, 3) := by decide +kernel
theorem d_Wi_sendArrival_29 : decode b_Wi_sendArrival 29 = .ok (.aload_n 0, 1) := by decide +kernel
theorem d_Wi_sendArrival_30 : decode b_Wi_sendArrival 30 = .ok (.getfield 11, 3) := by decide +kernel
theorem d_Wi_sendArrival_33 : decode b_Wi_sendArrival 33 = .ok (.aload_n 0, 1) := by decide +kernel
theorem d_Wi_sendArrival_34 : decode b_Wi_sendArrival 34 = .ok (.getfield 17, 3) := by decide +kernel
theorem d_Wi_sendArrival_37 : decode b_Wi_sendArrival 37 = .ok (.aaload, 1) := by decide +kernel
theorem d_Wi_sendArrival_38 : decode b_Wi_sendArrival 38 = .ok (.aload_n 1, 1) := by decide +kernel
theorem d_Wi_sendArrival_39 : decode b_Wi_sendArrival 39 = .ok (.invokevirtual 42, 3) := by decide +kernel
theorem d_Wi_sendArrival_42 : decode b_Wi_sendArrival 42 = .ok (.aload_n 0, 1) := by decide +kernel
theorem d_Wi_sendArrival_43 : decode b_Wi_sendArrival 43 = .ok (.dup, 1) := by decide +kernel
theorem d_Wi_sendArrival_44 : decode b_Wi_sendArrival 44 = .ok (.getfield 17, 3) := by decide +kernel
theorem d_Wi_sendArrival_47 : decode b_Wi_sendArrival 47 = .ok (.iconst (1), 1) := by decide +kernel
theorem d_Wi_sendArrival_48 : decode b_Wi_sendArrival 48 = .ok (.iadd, 1) := by decide +kernel
theorem d_Wi_sendArrival_49 : decode b_Wi_sendArrival 49 = .ok (.putfield 17, 3) := by decide +kernel
theorem d_Wi_sendArrival_52 : decode b_Wi_sendArrival 52 = .ok (.return_, 1) := by decide +kernel
theorem d_Wi_sendReceipt_0 : decode b_Wi_sendReceipt 0 = .ok (.aload_n 0, 1) := by decide +kernel
theorem d_Wi_sendReceipt_1 : decode b_Wi_sendReceipt 1 = .ok (.invokevirtual 26, 3) := by decide +kernel
theorem d_Wi_sendReceipt_4 : decode b_Wi_sendReceipt 4 = .ok (.ifCond .ne (30), 3) := by decide +kernel
theorem d_Wi_sendReceipt_7 : decode b_Wi_sendReceipt 7 = .ok (.aload_n 0, 1) := by decide +kernel
theorem d_Wi_sendReceipt_8 : decode b_Wi_sendReceipt 8 = .ok (.getfield 11, 3) := by decide +kernel
theorem d_Wi_sendReceipt_11 : decode b_Wi_sendReceipt 11 = .ok (.aload_n 0, 1) := by decide +kernel
theorem d_Wi_sendReceipt_12 : decode b_Wi_sendReceipt 12 = .ok (.getfield 17, 3) := by decide +kernel
theorem d_Wi_sendReceipt_15 : decode b_Wi_sendReceipt 15 = .ok (.aaload, 1) := by decide +kernel
theorem d_Wi_sendReceipt_16 : decode b_Wi_sendReceipt 16 = .ok (.iload_n 1, 1) := by decide +kernel
theorem d_Wi_sendReceipt_17 : decode b_Wi_sendReceipt 17 = .ok (.iload_n 2, 1) := by decide +kernel
theorem d_Wi_sendReceipt_18 : decode b_Wi_sendReceipt 18 = .ok (.iload_n 3, 1) := by decide +kernel
theorem d_Wi_sendReceipt_19 : decode b_Wi_sendReceipt 19 = .ok (.iload 4, 2) := by decide +kernel
theorem d_Wi_sendReceipt_21 : decode b_Wi_sendReceipt 21 = .ok (.invokevirtual 38, 3) := by decide +kernel
theorem d_Wi_sendReceipt_24 : decode b_Wi_sendReceipt 24 = .ok (.aload_n 0, 1) := by decide +kernel
theorem d_Wi_sendReceipt_25 : decode b_Wi_sendReceipt 25 = .ok (.dup, 1) := by decide +kernel
theorem d_Wi_sendReceipt_26 : decode b_Wi_sendReceipt 26 = .ok (.getfield 17, 3) := by decide +kernel
theorem d_Wi_sendReceipt_29 : decode b_Wi_sendReceipt 29 = .ok (.iconst (1), 1) := by decide +kernel
theorem d_Wi_sendReceipt_30 : decode b_Wi_sendReceipt 30 = .ok (.iadd, 1) := by decide +kernel
theorem d_Wi_sendReceipt_31 : decode b_Wi_sendReceipt 31 = .ok (.putfield 17, 3) := by decide +kernel
theorem d_Wi_sendReceipt_34 : decode b_Wi_sendReceipt 34 = .ok (.return_, 1) := by decide +kernel
theorem d_Wi_repeat_0 : decode b_Wi_repeat 0 = .ok (.aload_n 0, 1) := by decide +kernel
theorem d_Wi_repeat_1 : decode b_Wi_repeat 1 = .ok (.invokevirtual 26, 3) := by decide +kernel
theorem d_Wi_repeat_4 : decode b_Wi_repeat 4 = .ok (.ifCond .ne (31), 3) := by decide +kernel
theorem d_Wi_repeat_7 : decode b_Wi_repeat 7 = .ok (.aload_n 0, 1) := by decide +kernel
theorem d_Wi_repeat_8 : decode b_Wi_repeat 8 = .ok (.getfield 11, 3) := by decide +kernel
theorem d_Wi_repeat_11 : decode b_Wi_repeat 11 = .ok (.aload_n 0, 1) := by decide +kernel
theorem d_Wi_repeat_12 : decode b_Wi_repeat 12 = .ok (.getfield 17, 3) := by decide +kernel
theorem d_Wi_repeat_15 : decode b_Wi_repeat 15 = .ok (.aaload, 1) := by decide +kernel
theorem d_Wi_repeat_16 : decode b_Wi_repeat 16 = .ok (.aload_n 0, 1) := by decide +kernel
theorem d_Wi_repeat_17 : decode b_Wi_repeat 17 = .ok (.getfield 11, 3) := by decide +kernel
theorem d_Wi_repeat_20 : decode b_Wi_repeat 20 = .ok (.iload_n 1, 1) := by decide +kernel
theorem d_Wi_repeat_21 : decode b_Wi_repeat 21 = .ok (.aaload, 1) := by decide +kernel
theorem d_Wi_repeat_22 : decode b_Wi_repeat 22 = .ok (.invokevirtual 46, 3) := by decide +kernel
theorem d_Wi_repeat_25 : decode b_Wi_repeat 25 = .ok (.aload_n 0, 1) := by decide +kernel
theorem d_Wi_repeat_26 : decode b_Wi_repeat 26 = .ok (.dup, 1) := by decide +kernel
theorem d_Wi_repeat_27 : decode b_Wi_repeat 27 = .ok (.getfield 17, 3) := by decide +kernel
theorem d_Wi_repeat_30 : decode b_Wi_repeat 30 = .ok (.iconst (1), 1) := by decide +kernel
theorem d_Wi_repeat_31 : decode b_Wi_repeat 31 = .ok (.iadd, 1) := by decide +kernel
theorem d_Wi_repeat_32 : decode b_Wi_repeat 32 = .ok (.putfield 17, 3) := by decide +kernel
theorem d_Wi_repeat_35 : decode b_Wi_repeat 35 = .ok (.return_, 1) := by decide +kernel
theorem d_Wi_remove_0 : decode b_Wi_remove 0 = .ok (.aload_n 0, 1) := by decide +kernel
theorem d_Wi_remove_1 : decode b_Wi_remove 1 = .ok (.getfield 11, 3) := by decide +kernel
theorem d_Wi_remove_4 : decode b_Wi_remove 4 = .ok (.iload_n 1, 1) := by decide +kernel
theorem d_Wi_remove_5 : decode b_Wi_remove 5 = .ok (.aaload, 1) := by decide +kernel
theorem d_Wi_remove_6 : decode b_Wi_remove 6 = .ok (.astore_n 2, 1) := by decide +kernel
theorem d_Wi_remove_7 : decode b_Wi_remove 7 = .ok (.aload_n 0, 1) := by decide +kernel
theorem d_Wi_remove_8 : decode b_Wi_remove 8 = .ok (.dup, 1) := by decide +kernel
theorem d_Wi_remove_9 : decode b_Wi_remove 9 = .ok (.getfield 17, 3) := by decide +kernel
theorem d_Wi_remove_12 : decode b_Wi_remove 12 = .ok (.iconst (1), 1) := by decide +kernel
theorem d_Wi_remove_13 : decode b_Wi_remove 13 = .ok (.isub, 1) := by decide +kernel
theorem d_Wi_remove_14 : decode b_Wi_remove 14 = .ok (.putfield 17, 3) := by decide +kernel
theorem d_Wi_remove_17 : decode b_Wi_remove 17 = .ok (.iload_n 1, 1) := by decide +kernel
theorem d_Wi_remove_18 : decode b_Wi_remove 18 = .ok (.istore_n 3, 1) := by decide +kernel
theorem d_Wi_remove_19 : decode b_Wi_remove 19 = .ok (.iload_n 3, 1) := by decide +kernel
theorem d_Wi_remove_20 : decode b_Wi_remove 20 = .ok (.aload_n 0, 1) := by decide +kernel
theorem d_Wi_remove_21 : decode b_Wi_remove 21 = .ok (.getfield 17, 3) := by decide +kernel
theorem d_Wi_remove_24 : decode b_Wi_remove 24 = .ok (.if_icmp .ge (23), 3) := by decide +kernel
theorem d_Wi_remove_27 : decode b_Wi_remove 27 = .ok (.aload_n 0, 1) := by decide +kernel
theorem d_Wi_remove_28 : decode b_Wi_remove 28 = .ok (.getfield 11, 3) := by decide +kernel
theorem d_Wi_remove_31 : decode b_Wi_remove 31 = .ok (.iload_n 3, 1) := by decide +kernel
theorem d_Wi_remove_32 : decode b_Wi_remove 32 = .ok (.aload_n 0, 1) := by decide +kernel
theorem d_Wi_remove_33 : decode b_Wi_remove 33 = .ok (.getfield 11, 3) := by decide +kernel
theorem d_Wi_remove_36 : decode b_Wi_remove 36 = .ok (.iload_n 3, 1) := by decide +kernel
theorem d_Wi_remove_37 : decode b_Wi_remove 37 = .ok (.iconst (1), 1) := by decide +kernel
theorem d_Wi_remove_38 : decode b_Wi_remove 38 = .ok (.iadd, 1) := by decide +kernel
theorem d_Wi_remove_39 : decode b_Wi_remove 39 = .ok (.aaload, 1) := by decide +kernel
theorem d_Wi_remove_40 : decode b_Wi_remove 40 = .ok (.aastore, 1) := by decide +kernel
theorem d_Wi_remove_41 : decode b_Wi_remove 41 = .ok (.iinc 3 (1), 3) := by decide +kernel
theorem d_Wi_remove_44 : decode b_Wi_remove 44 = .ok (.goto (-25), 3) := by decide +kernel
theorem d_Wi_remove_47 : decode b_Wi_remove 47 = .ok (.aload_n 0, 1) := by decide +kernel
theorem d_Wi_remove_48 : decode b_Wi_remove 48 = .ok (.getfield 11, 3) := by decide +kernel
theorem d_Wi_remove_51 : decode b_Wi_remove 51 = .ok (.aload_n 0, 1) := by decide +kernel
theorem d_Wi_remove_52 : decode b_Wi_remove 52 = .ok (.getfield 17, 3) := by decide +kernel
theorem d_Wi_remove_55 : decode b_Wi_remove 55 = .ok (.aload_n 0, 1) := by decide +kernel
theorem d_Wi_remove_56 : decode b_Wi_remove 56 = .ok (.getfield 22, 3) := by decide +kernel
theorem d_Wi_remove_59 : decode b_Wi_remove 59 = .ok (.aastore, 1) := by decide +kernel
theorem d_Wi_remove_60 : decode b_Wi_remove 60 = .ok (.aload_n 0, 1) := by decide +kernel
theorem d_Wi_remove_61 : decode b_Wi_remove 61 = .ok (.aload_n 2, 1) := by decide +kernel
theorem d_Wi_remove_62 : decode b_Wi_remove 62 = .ok (.putfield 22, 3) := by decide +kernel
theorem d_Wi_remove_65 : decode b_Wi_remove 65 = .ok (.aload_n 2, 1) := by decide +kernel
theorem d_Wi_remove_66 : decode b_Wi_remove 66 = .ok (.areturn, 1) := by decide +kernel
